/-! THE PUBLIC METHODS, WHERE ONE OF THEIR CHECKS REFUSES -/
set_option maxHeartbeats 4000000 in
set_option maxRecDepth 100000 in
theorem thX3_span_1 (l : Launch) (hlt : l.stackTraces = false) (D : va_G) (T : Nat → ClassId) (N0 : Nat) (ad : Nat → Nat) (F V : Nat → Nat → Int32) (sr : SRs) (C : Nat → Int32) (x1 x2 x3 x4 x5 : Int32) (hbad : x1 < 0 ∨ nI 8 ≤ x1) : vx_Met l yX3_span wsX3_span ({ frames := 7, cells := 1, slots := 6, locals := 104 }) (cX D T N0 [.ref (ad 0), .int x1, .int x2, .int x3, .int x4, .int x5] (fun H => PLW D T ad F V sr C H)) (va_Qv (fun (_ : Unit) => False) (fun _ _ => True) (fun q : Nat => N0 ≤ q)) (xQ IOB (fun q : Nat => N0 ≤ q)) 1 6 (fun q : Nat => N0 ≤ q) := by
  refine vx_ofW (cc := cX3_span) (maxL := 7) (ret := (some .int)) (by decide) rfl ?_
  intro p e s m args below meth c s₁ B hml hex hv9
  obtain ⟨rfl, hK, hw, hKX⟩ := hv9
  have hx := B.exec
  have hb := B.bytes
  have hts := atoms_spec (ws := wsX3_span) B.pre
  have hown : s.vm.findClass RX3 = some m.cls := findClass_of_methodNamed B.named
  have hlocks := B.notSynchronized
  have hS : va_S (fun q : Nat => N0 ≤ q) s.heap s.heap [] := va_S.rf
  have hl := lv_entry ([.ref (ad 0), .int x1, .int x2, .int x3, .int x4, .int x5]) (n := 7) (Nat.le_of_ble_eq_true rfl)
  rw [lg_entry_eq]
  generalize (lg_sl ([.ref (ad 0), .int x1, .int x2, .int x3, .int x4, .int x5]) ++ List.replicate (7 - (lg_sl ([.ref (ad 0), .int x1, .int x2, .int x3, .int x4, .int x5])).length) Slot.unset).toArray = ls at hl ⊢
  have hl : lv_has ls 7 [(0, .ref (ad 0)), (1, .int x1), (2, .int x2), (3, .int x3), (4, .int x4), (5, .int x5)] := hl
  refine lv_aload_n hx hb dX3_span_0 rfl (lv_at hl 0 rfl) ?_
  refine lv_iload_n hx hb dX3_span_1 rfl (lv_at hl 1 rfl) ?_
  exact vx_callv (vx_runV (As := [.int x1]) (rest := []) ⟨hx, hb, hml, hown, hts⟩ (thX3_setAt l hlt D T N0 ad F V sr C x1 hbad) (cwV 1 hts gX3_span_X3_setAt rfl rfl rfl (by decide +kernel) ⟨Nat.le_of_ble_eq_true rfl, Nat.le_of_ble_eq_true rfl⟩) (preXV hK hKX rfl hw.o rfl hw) rfl rfl hl.1 rfl (lv_room (Nat.le_of_ble_eq_true rfl)) dX3_span_2 ⟨Nat.le_of_ble_eq_true rfl, Nat.le_of_ble_eq_true rfl⟩) hS (fun q _ h9 => h9) (fun q h9 => h9) (fun q _ h9 => h9) (fun E ce q9 u t H1 locs1 ht hvm _ hE hz hk hS hce hcv hcl => by
    subst hE
    exact vx_out (fun z hz => absurd (hex z hz) (fun f => f)) hlocks hce hcv hcl (fun t ht _ => ⟨(), trivial, rfl, hS.F ht⟩) hS.2.2 (Nat.le_of_ble_eq_true rfl) (Nat.le_of_ble_eq_true rfl)) (fun u t H1 locs1 ht hvm hf => hf.elim)

set_option maxHeartbeats 4000000 in
set_option maxRecDepth 100000 in
theorem thX3_span_2 (l : Launch) (hlt : l.stackTraces = false) (D : va_G) (T : Nat → ClassId) (N0 : Nat) (ad : Nat → Nat) (F V : Nat → Nat → Int32) (sr : SRs) (C : Nat → Int32) (k1 : Nat) (x2 x3 x4 x5 : Int32) (h1 : k1 < 8) (hbad : (x2 < 0 ∨ nI 100 < x3 ∨ x3 < x2) ∨ (x4 < 0 ∨ ¬ x4 ≤ nI 3)) : vx_Met l yX3_span wsX3_span ({ frames := 8, cells := 1, slots := 6, locals := 125 }) (cX D T N0 [.ref (ad 0), .int (nI k1), .int x2, .int x3, .int x4, .int x5] (fun H => PLW D T ad F V sr C H)) (va_Qv (fun (_ : Unit) => False) (fun _ _ => True) (fun q : Nat => N0 ≤ q)) (xQ IAE (fun q : Nat => N0 ≤ q)) 1 6 (fun q : Nat => N0 ≤ q) := by
  refine vx_ofW (cc := cX3_span) (maxL := 7) (ret := (some .int)) (by decide) rfl ?_
  intro p e s m args below meth c s₁ B hml hex hv9
  obtain ⟨rfl, hK, hw, hKX⟩ := hv9
  have hx := B.exec
  have hb := B.bytes
  have hts := atoms_spec (ws := wsX3_span) B.pre
  have hown : s.vm.findClass RX3 = some m.cls := findClass_of_methodNamed B.named
  have hlocks := B.notSynchronized
  have hS : va_S (fun q : Nat => N0 ≤ q) s.heap s.heap [] := va_S.rf
  have hl := lv_entry ([.ref (ad 0), .int (nI k1), .int x2, .int x3, .int x4, .int x5]) (n := 7) (Nat.le_of_ble_eq_true rfl)
  rw [lg_entry_eq]
  generalize (lg_sl ([.ref (ad 0), .int (nI k1), .int x2, .int x3, .int x4, .int x5]) ++ List.replicate (7 - (lg_sl ([.ref (ad 0), .int (nI k1), .int x2, .int x3, .int x4, .int x5])).length) Slot.unset).toArray = ls at hl ⊢
  have hl : lv_has ls 7 [(0, .ref (ad 0)), (1, .int (nI k1)), (2, .int x2), (3, .int x3), (4, .int x4), (5, .int x5)] := hl
  refine lv_aload_n hx hb dX3_span_0 rfl (lv_at hl 0 rfl) ?_
  refine lv_iload_n hx hb dX3_span_1 rfl (lv_at hl 1 rfl) ?_
  refine va_csr (ad := fun k => .ref k) (va_runV (As := [.int (nI k1)]) (rest := []) ⟨hx, hb, hml, hown, hts⟩ (conX3_setAt l D T ad F V sr C k1 (by omega)) (cwV 1 hts gX3_span_X3_setAt rfl rfl rfl (by decide +kernel) ⟨Nat.le_of_ble_eq_true rfl, Nat.le_of_ble_eq_true rfl⟩) (preV hK hw.o rfl hw) rfl rfl hl.1 rfl (lv_room (Nat.le_of_ble_eq_true rfl)) dX3_span_2 ⟨Nat.le_of_ble_eq_true rfl, Nat.le_of_ble_eq_true rfl⟩).run (fun r1 hr1 => ?_)
  subst hr1
  refine lv_astore (lv' := [(6, .ref (ad (4 + k1))), (0, .ref (ad 0)), (1, .int (nI k1)), (2, .int x2), (3, .int x3), (4, .int x4), (5, .int x5)]) hx hb dX3_span_5 hl (by decide) rfl (fun ls hl => ?_)
  refine lv_iload_n hx hb dX3_span_7 rfl (lv_at hl 3 rfl) ?_
  refine lv_iload_n hx hb dX3_span_8 rfl (lv_at hl 4 rfl) ?_
  refine lv_iload hx hb dX3_span_9 (lv_at hl 5 rfl) ?_
  exact vx_callv (vx_runS (As := [.int x2, .int x3, .int x4]) (rest := []) ⟨hx, hb, hml, hown, hts⟩ (thX3_checkSpan l hlt D T N0 x2 x3 x4 hbad) (va_cwS 3 hts gX3_span_X3_checkSpan rfl rfl rfl (by decide +kernel) ⟨Nat.le_of_ble_eq_true rfl, Nat.le_of_ble_eq_true rfl⟩) (preX hK hKX rfl trivial) rfl rfl hl.1 rfl (lv_room (Nat.le_of_ble_eq_true rfl)) dX3_span_11 ⟨Nat.le_of_ble_eq_true rfl, Nat.le_of_ble_eq_true rfl⟩) hS (fun q _ h9 => h9) (fun q h9 => h9) (fun q _ h9 => h9) (fun E ce q9 u t H1 locs1 ht hvm _ hE hz hk hS hce hcv hcl => by
    subst hE
    exact vx_out (fun z hz => absurd (hex z hz) (fun f => f)) hlocks hce hcv hcl (fun t ht _ => ⟨(), trivial, rfl, hS.F ht⟩) hS.2.2 (Nat.le_of_ble_eq_true rfl) (Nat.le_of_ble_eq_true rfl)) (fun u t H1 locs1 ht hvm hf => hf.elim)

set_option maxHeartbeats 4000000 in
set_option maxRecDepth 100000 in
theorem thX3_join_1 (l : Launch) (hlt : l.stackTraces = false) (D : va_G) (T : Nat → ClassId) (N0 : Nat) (ad : Nat → Nat) (F V : Nat → Nat → Int32) (sr : SRs) (C : Nat → Int32) (x1 x2 x3 x4 : Int32) (hbad : x1 < 0 ∨ nI 8 ≤ x1) : vx_Met l yX3_join wsX3_join ({ frames := 7, cells := 1, slots := 6, locals := 104 }) (cX D T N0 [.ref (ad 0), .int x1, .int x2, .int x3, .int x4] (fun H => PLW D T ad F V sr C H)) (va_Qv (fun (_ : Unit) => False) (fun _ _ => True) (fun q : Nat => N0 ≤ q)) (xQ IOB (fun q : Nat => N0 ≤ q)) 1 6 (fun q : Nat => N0 ≤ q) := by
  refine vx_ofW (cc := cX3_join) (maxL := 9) (ret := (some .int)) (by decide) rfl ?_
  intro p e s m args below meth c s₁ B hml hex hv9
  obtain ⟨rfl, hK, hw, hKX⟩ := hv9
  have hx := B.exec
  have hb := B.bytes
  have hts := atoms_spec (ws := wsX3_join) B.pre
  have hown : s.vm.findClass RX3 = some m.cls := findClass_of_methodNamed B.named
  have hlocks := B.notSynchronized
  have hS : va_S (fun q : Nat => N0 ≤ q) s.heap s.heap [] := va_S.rf
  have hl := lv_entry ([.ref (ad 0), .int x1, .int x2, .int x3, .int x4]) (n := 9) (Nat.le_of_ble_eq_true rfl)
  rw [lg_entry_eq]
  generalize (lg_sl ([.ref (ad 0), .int x1, .int x2, .int x3, .int x4]) ++ List.replicate (9 - (lg_sl ([.ref (ad 0), .int x1, .int x2, .int x3, .int x4])).length) Slot.unset).toArray = ls at hl ⊢
  have hl : lv_has ls 9 [(0, .ref (ad 0)), (1, .int x1), (2, .int x2), (3, .int x3), (4, .int x4)] := hl
  refine lv_aload_n hx hb dX3_join_0 rfl (lv_at hl 0 rfl) ?_
  refine lv_iload_n hx hb dX3_join_1 rfl (lv_at hl 1 rfl) ?_
  exact vx_callv (vx_runV (As := [.int x1]) (rest := []) ⟨hx, hb, hml, hown, hts⟩ (thX3_setAt l hlt D T N0 ad F V sr C x1 hbad) (cwV 1 hts gX3_join_X3_setAt rfl rfl rfl (by decide +kernel) ⟨Nat.le_of_ble_eq_true rfl, Nat.le_of_ble_eq_true rfl⟩) (preXV hK hKX rfl hw.o rfl hw) rfl rfl hl.1 rfl (lv_room (Nat.le_of_ble_eq_true rfl)) dX3_join_2 ⟨Nat.le_of_ble_eq_true rfl, Nat.le_of_ble_eq_true rfl⟩) hS (fun q _ h9 => h9) (fun q h9 => h9) (fun q _ h9 => h9) (fun E ce q9 u t H1 locs1 ht hvm _ hE hz hk hS hce hcv hcl => by
    subst hE
    exact vx_out (fun z hz => absurd (hex z hz) (fun f => f)) hlocks hce hcv hcl (fun t ht _ => ⟨(), trivial, rfl, hS.F ht⟩) hS.2.2 (Nat.le_of_ble_eq_true rfl) (Nat.le_of_ble_eq_true rfl)) (fun u t H1 locs1 ht hvm hf => hf.elim)

set_option maxHeartbeats 4000000 in
set_option maxRecDepth 100000 in
theorem thX3_join_2 (l : Launch) (hlt : l.stackTraces = false) (D : va_G) (T : Nat → ClassId) (N0 : Nat) (ad : Nat → Nat) (F V : Nat → Nat → Int32) (sr : SRs) (C : Nat → Int32) (k1 : Nat) (x2 x3 x4 : Int32) (h1 : k1 < 8) (hbad : x2 < 0 ∨ nI 8 ≤ x2) : vx_Met l yX3_join wsX3_join ({ frames := 7, cells := 1, slots := 6, locals := 104 }) (cX D T N0 [.ref (ad 0), .int (nI k1), .int x2, .int x3, .int x4] (fun H => PLW D T ad F V sr C H)) (va_Qv (fun (_ : Unit) => False) (fun _ _ => True) (fun q : Nat => N0 ≤ q)) (xQ IOB (fun q : Nat => N0 ≤ q)) 1 6 (fun q : Nat => N0 ≤ q) := by
  refine vx_ofW (cc := cX3_join) (maxL := 9) (ret := (some .int)) (by decide) rfl ?_
  intro p e s m args below meth c s₁ B hml hex hv9
  obtain ⟨rfl, hK, hw, hKX⟩ := hv9
  have hx := B.exec
  have hb := B.bytes
  have hts := atoms_spec (ws := wsX3_join) B.pre
  have hown : s.vm.findClass RX3 = some m.cls := findClass_of_methodNamed B.named
  have hlocks := B.notSynchronized
  have hS : va_S (fun q : Nat => N0 ≤ q) s.heap s.heap [] := va_S.rf
  have hl := lv_entry ([.ref (ad 0), .int (nI k1), .int x2, .int x3, .int x4]) (n := 9) (Nat.le_of_ble_eq_true rfl)
  rw [lg_entry_eq]
  generalize (lg_sl ([.ref (ad 0), .int (nI k1), .int x2, .int x3, .int x4]) ++ List.replicate (9 - (lg_sl ([.ref (ad 0), .int (nI k1), .int x2, .int x3, .int x4])).length) Slot.unset).toArray = ls at hl ⊢
  have hl : lv_has ls 9 [(0, .ref (ad 0)), (1, .int (nI k1)), (2, .int x2), (3, .int x3), (4, .int x4)] := hl
  refine lv_aload_n hx hb dX3_join_0 rfl (lv_at hl 0 rfl) ?_
  refine lv_iload_n hx hb dX3_join_1 rfl (lv_at hl 1 rfl) ?_
  refine va_csr (ad := fun k => .ref k) (va_runV (As := [.int (nI k1)]) (rest := []) ⟨hx, hb, hml, hown, hts⟩ (conX3_setAt l D T ad F V sr C k1 (by omega)) (cwV 1 hts gX3_join_X3_setAt rfl rfl rfl (by decide +kernel) ⟨Nat.le_of_ble_eq_true rfl, Nat.le_of_ble_eq_true rfl⟩) (preV hK hw.o rfl hw) rfl rfl hl.1 rfl (lv_room (Nat.le_of_ble_eq_true rfl)) dX3_join_2 ⟨Nat.le_of_ble_eq_true rfl, Nat.le_of_ble_eq_true rfl⟩).run (fun r1 hr1 => ?_)
  subst hr1
  refine lv_astore (lv' := [(5, .ref (ad (4 + k1))), (0, .ref (ad 0)), (1, .int (nI k1)), (2, .int x2), (3, .int x3), (4, .int x4)]) hx hb dX3_join_5 hl (by decide) rfl (fun ls hl => ?_)
  refine lv_aload_n hx hb dX3_join_7 rfl (lv_at hl 1 rfl) ?_
  refine lv_iload_n hx hb dX3_join_8 rfl (lv_at hl 3 rfl) ?_
  exact vx_callv (vx_runV (As := [.int x2]) (rest := []) ⟨hx, hb, hml, hown, hts⟩ (thX3_setAt l hlt D T N0 ad F V sr C x2 hbad) (cwV 1 hts gX3_join_X3_setAt rfl rfl rfl (by decide +kernel) ⟨Nat.le_of_ble_eq_true rfl, Nat.le_of_ble_eq_true rfl⟩) (preXV hK hKX rfl hw.o rfl hw) rfl rfl hl.1 rfl (lv_room (Nat.le_of_ble_eq_true rfl)) dX3_join_9 ⟨Nat.le_of_ble_eq_true rfl, Nat.le_of_ble_eq_true rfl⟩) hS (fun q _ h9 => h9) (fun q h9 => h9) (fun q _ h9 => h9) (fun E ce q9 u t H1 locs1 ht hvm _ hE hz hk hS hce hcv hcl => by
    subst hE
    exact vx_out (fun z hz => absurd (hex z hz) (fun f => f)) hlocks hce hcv hcl (fun t ht _ => ⟨(), trivial, rfl, hS.F ht⟩) hS.2.2 (Nat.le_of_ble_eq_true rfl) (Nat.le_of_ble_eq_true rfl)) (fun u t H1 locs1 ht hvm hf => hf.elim)

set_option maxHeartbeats 4000000 in
set_option maxRecDepth 100000 in
theorem thX3_join_3 (l : Launch) (hlt : l.stackTraces = false) (D : va_G) (T : Nat → ClassId) (N0 : Nat) (ad : Nat → Nat) (F V : Nat → Nat → Int32) (sr : SRs) (C : Nat → Int32) (k1 k2 : Nat) (x3 x4 : Int32) (h1 : k1 < 8) (h2 : k2 < 8) (hbad : x3 < 0 ∨ nI 8 ≤ x3) : vx_Met l yX3_join wsX3_join ({ frames := 7, cells := 1, slots := 6, locals := 104 }) (cX D T N0 [.ref (ad 0), .int (nI k1), .int (nI k2), .int x3, .int x4] (fun H => PLW D T ad F V sr C H)) (va_Qv (fun (_ : Unit) => False) (fun _ _ => True) (fun q : Nat => N0 ≤ q)) (xQ IOB (fun q : Nat => N0 ≤ q)) 1 6 (fun q : Nat => N0 ≤ q) := by
  refine vx_ofW (cc := cX3_join) (maxL := 9) (ret := (some .int)) (by decide) rfl ?_
  intro p e s m args below meth c s₁ B hml hex hv9
  obtain ⟨rfl, hK, hw, hKX⟩ := hv9
  have hx := B.exec
  have hb := B.bytes
  have hts := atoms_spec (ws := wsX3_join) B.pre
  have hown : s.vm.findClass RX3 = some m.cls := findClass_of_methodNamed B.named
  have hlocks := B.notSynchronized
  have hS : va_S (fun q : Nat => N0 ≤ q) s.heap s.heap [] := va_S.rf
  have hl := lv_entry ([.ref (ad 0), .int (nI k1), .int (nI k2), .int x3, .int x4]) (n := 9) (Nat.le_of_ble_eq_true rfl)
  rw [lg_entry_eq]
  generalize (lg_sl ([.ref (ad 0), .int (nI k1), .int (nI k2), .int x3, .int x4]) ++ List.replicate (9 - (lg_sl ([.ref (ad 0), .int (nI k1), .int (nI k2), .int x3, .int x4])).length) Slot.unset).toArray = ls at hl ⊢
  have hl : lv_has ls 9 [(0, .ref (ad 0)), (1, .int (nI k1)), (2, .int (nI k2)), (3, .int x3), (4, .int x4)] := hl
  refine lv_aload_n hx hb dX3_join_0 rfl (lv_at hl 0 rfl) ?_
  refine lv_iload_n hx hb dX3_join_1 rfl (lv_at hl 1 rfl) ?_
  refine va_csr (ad := fun k => .ref k) (va_runV (As := [.int (nI k1)]) (rest := []) ⟨hx, hb, hml, hown, hts⟩ (conX3_setAt l D T ad F V sr C k1 (by omega)) (cwV 1 hts gX3_join_X3_setAt rfl rfl rfl (by decide +kernel) ⟨Nat.le_of_ble_eq_true rfl, Nat.le_of_ble_eq_true rfl⟩) (preV hK hw.o rfl hw) rfl rfl hl.1 rfl (lv_room (Nat.le_of_ble_eq_true rfl)) dX3_join_2 ⟨Nat.le_of_ble_eq_true rfl, Nat.le_of_ble_eq_true rfl⟩).run (fun r1 hr1 => ?_)
  subst hr1
  refine lv_astore (lv' := [(5, .ref (ad (4 + k1))), (0, .ref (ad 0)), (1, .int (nI k1)), (2, .int (nI k2)), (3, .int x3), (4, .int x4)]) hx hb dX3_join_5 hl (by decide) rfl (fun ls hl => ?_)
  refine lv_aload_n hx hb dX3_join_7 rfl (lv_at hl 1 rfl) ?_
  refine lv_iload_n hx hb dX3_join_8 rfl (lv_at hl 3 rfl) ?_
  refine va_csr (ad := fun k => .ref k) (va_runV (As := [.int (nI k2)]) (rest := []) ⟨hx, hb, hml, hown, hts⟩ (conX3_setAt l D T ad F V sr C k2 (by omega)) (cwV 1 hts gX3_join_X3_setAt rfl rfl rfl (by decide +kernel) ⟨Nat.le_of_ble_eq_true rfl, Nat.le_of_ble_eq_true rfl⟩) (preV hK hw.o rfl hw) rfl rfl hl.1 rfl (lv_room (Nat.le_of_ble_eq_true rfl)) dX3_join_9 ⟨Nat.le_of_ble_eq_true rfl, Nat.le_of_ble_eq_true rfl⟩).run (fun r2 hr2 => ?_)
  subst hr2
  refine lv_astore (lv' := [(6, .ref (ad (4 + k2))), (5, .ref (ad (4 + k1))), (0, .ref (ad 0)), (1, .int (nI k1)), (2, .int (nI k2)), (3, .int x3), (4, .int x4)]) hx hb dX3_join_12 hl (by decide) rfl (fun ls hl => ?_)
  refine lv_aload_n hx hb dX3_join_14 rfl (lv_at hl 2 rfl) ?_
  refine lv_iload_n hx hb dX3_join_15 rfl (lv_at hl 5 rfl) ?_
  exact vx_callv (vx_runV (As := [.int x3]) (rest := []) ⟨hx, hb, hml, hown, hts⟩ (thX3_setAt l hlt D T N0 ad F V sr C x3 hbad) (cwV 1 hts gX3_join_X3_setAt rfl rfl rfl (by decide +kernel) ⟨Nat.le_of_ble_eq_true rfl, Nat.le_of_ble_eq_true rfl⟩) (preXV hK hKX rfl hw.o rfl hw) rfl rfl hl.1 rfl (lv_room (Nat.le_of_ble_eq_true rfl)) dX3_join_16 ⟨Nat.le_of_ble_eq_true rfl, Nat.le_of_ble_eq_true rfl⟩) hS (fun q _ h9 => h9) (fun q h9 => h9) (fun q _ h9 => h9) (fun E ce q9 u t H1 locs1 ht hvm _ hE hz hk hS hce hcv hcl => by
    subst hE
    exact vx_out (fun z hz => absurd (hex z hz) (fun f => f)) hlocks hce hcv hcl (fun t ht _ => ⟨(), trivial, rfl, hS.F ht⟩) hS.2.2 (Nat.le_of_ble_eq_true rfl) (Nat.le_of_ble_eq_true rfl)) (fun u t H1 locs1 ht hvm hf => hf.elim)

set_option maxHeartbeats 4000000 in
set_option maxRecDepth 100000 in
theorem thX3_join_4 (l : Launch) (hlt : l.stackTraces = false) (D : va_G) (T : Nat → ClassId) (N0 : Nat) (ad : Nat → Nat) (F V : Nat → Nat → Int32) (sr : SRs) (C : Nat → Int32) (k1 k2 k3 : Nat) (x4 : Int32) (h1 : k1 < 8) (h2 : k2 < 8) (h3 : k3 < 8) (hbad : x4 < 0 ∨ ¬ x4 ≤ nI 3) : vx_Met l yX3_join wsX3_join ({ frames := 7, cells := 1, slots := 6, locals := 103 }) (cX D T N0 [.ref (ad 0), .int (nI k1), .int (nI k2), .int (nI k3), .int x4] (fun H => PLW D T ad F V sr C H)) (va_Qv (fun (_ : Unit) => False) (fun _ _ => True) (fun q : Nat => N0 ≤ q)) (xQ IAE (fun q : Nat => N0 ≤ q)) 1 6 (fun q : Nat => N0 ≤ q) := by
  refine vx_ofW (cc := cX3_join) (maxL := 9) (ret := (some .int)) (by decide) rfl ?_
  intro p e s m args below meth c s₁ B hml hex hv9
  obtain ⟨rfl, hK, hw, hKX⟩ := hv9
  have hx := B.exec
  have hb := B.bytes
  have hts := atoms_spec (ws := wsX3_join) B.pre
  have hown : s.vm.findClass RX3 = some m.cls := findClass_of_methodNamed B.named
  have hlocks := B.notSynchronized
  have hS : va_S (fun q : Nat => N0 ≤ q) s.heap s.heap [] := va_S.rf
  have hl := lv_entry ([.ref (ad 0), .int (nI k1), .int (nI k2), .int (nI k3), .int x4]) (n := 9) (Nat.le_of_ble_eq_true rfl)
  rw [lg_entry_eq]
  generalize (lg_sl ([.ref (ad 0), .int (nI k1), .int (nI k2), .int (nI k3), .int x4]) ++ List.replicate (9 - (lg_sl ([.ref (ad 0), .int (nI k1), .int (nI k2), .int (nI k3), .int x4])).length) Slot.unset).toArray = ls at hl ⊢
  have hl : lv_has ls 9 [(0, .ref (ad 0)), (1, .int (nI k1)), (2, .int (nI k2)), (3, .int (nI k3)), (4, .int x4)] := hl
  refine lv_aload_n hx hb dX3_join_0 rfl (lv_at hl 0 rfl) ?_
  refine lv_iload_n hx hb dX3_join_1 rfl (lv_at hl 1 rfl) ?_
  refine va_csr (ad := fun k => .ref k) (va_runV (As := [.int (nI k1)]) (rest := []) ⟨hx, hb, hml, hown, hts⟩ (conX3_setAt l D T ad F V sr C k1 (by omega)) (cwV 1 hts gX3_join_X3_setAt rfl rfl rfl (by decide +kernel) ⟨Nat.le_of_ble_eq_true rfl, Nat.le_of_ble_eq_true rfl⟩) (preV hK hw.o rfl hw) rfl rfl hl.1 rfl (lv_room (Nat.le_of_ble_eq_true rfl)) dX3_join_2 ⟨Nat.le_of_ble_eq_true rfl, Nat.le_of_ble_eq_true rfl⟩).run (fun r1 hr1 => ?_)
  subst hr1
  refine lv_astore (lv' := [(5, .ref (ad (4 + k1))), (0, .ref (ad 0)), (1, .int (nI k1)), (2, .int (nI k2)), (3, .int (nI k3)), (4, .int x4)]) hx hb dX3_join_5 hl (by decide) rfl (fun ls hl => ?_)
  refine lv_aload_n hx hb dX3_join_7 rfl (lv_at hl 1 rfl) ?_
  refine lv_iload_n hx hb dX3_join_8 rfl (lv_at hl 3 rfl) ?_
  refine va_csr (ad := fun k => .ref k) (va_runV (As := [.int (nI k2)]) (rest := []) ⟨hx, hb, hml, hown, hts⟩ (conX3_setAt l D T ad F V sr C k2 (by omega)) (cwV 1 hts gX3_join_X3_setAt rfl rfl rfl (by decide +kernel) ⟨Nat.le_of_ble_eq_true rfl, Nat.le_of_ble_eq_true rfl⟩) (preV hK hw.o rfl hw) rfl rfl hl.1 rfl (lv_room (Nat.le_of_ble_eq_true rfl)) dX3_join_9 ⟨Nat.le_of_ble_eq_true rfl, Nat.le_of_ble_eq_true rfl⟩).run (fun r2 hr2 => ?_)
  subst hr2
  refine lv_astore (lv' := [(6, .ref (ad (4 + k2))), (5, .ref (ad (4 + k1))), (0, .ref (ad 0)), (1, .int (nI k1)), (2, .int (nI k2)), (3, .int (nI k3)), (4, .int x4)]) hx hb dX3_join_12 hl (by decide) rfl (fun ls hl => ?_)
  refine lv_aload_n hx hb dX3_join_14 rfl (lv_at hl 2 rfl) ?_
  refine lv_iload_n hx hb dX3_join_15 rfl (lv_at hl 5 rfl) ?_
  refine va_csr (ad := fun k => .ref k) (va_runV (As := [.int (nI k3)]) (rest := []) ⟨hx, hb, hml, hown, hts⟩ (conX3_setAt l D T ad F V sr C k3 (by omega)) (cwV 1 hts gX3_join_X3_setAt rfl rfl rfl (by decide +kernel) ⟨Nat.le_of_ble_eq_true rfl, Nat.le_of_ble_eq_true rfl⟩) (preV hK hw.o rfl hw) rfl rfl hl.1 rfl (lv_room (Nat.le_of_ble_eq_true rfl)) dX3_join_16 ⟨Nat.le_of_ble_eq_true rfl, Nat.le_of_ble_eq_true rfl⟩).run (fun r3 hr3 => ?_)
  subst hr3
  refine lv_astore (lv' := [(7, .ref (ad (4 + k3))), (6, .ref (ad (4 + k2))), (5, .ref (ad (4 + k1))), (0, .ref (ad 0)), (1, .int (nI k1)), (2, .int (nI k2)), (3, .int (nI k3)), (4, .int x4)]) hx hb dX3_join_19 hl (by decide) rfl (fun ls hl => ?_)
  refine lv_iload hx hb dX3_join_21 (lv_at hl 7 rfl) ?_
  refine lv_iconst (v := nI 3) hx hb dX3_join_23 (by decide) ?_
  exact vx_callv (vx_runS (As := [.int x4, .int (nI 3)]) (rest := []) ⟨hx, hb, hml, hown, hts⟩ (thX3_checkChoice l hlt D T N0 x4 (nI 3) hbad) (va_cwS 2 hts gX3_join_X3_checkChoice rfl rfl rfl (by decide +kernel) ⟨Nat.le_of_ble_eq_true rfl, Nat.le_of_ble_eq_true rfl⟩) (preX hK hKX rfl trivial) rfl rfl hl.1 rfl (lv_room (Nat.le_of_ble_eq_true rfl)) dX3_join_24 ⟨Nat.le_of_ble_eq_true rfl, Nat.le_of_ble_eq_true rfl⟩) hS (fun q _ h9 => h9) (fun q h9 => h9) (fun q _ h9 => h9) (fun E ce q9 u t H1 locs1 ht hvm _ hE hz hk hS hce hcv hcl => by
    subst hE
    exact vx_out (fun z hz => absurd (hex z hz) (fun f => f)) hlocks hce hcv hcl (fun t ht _ => ⟨(), trivial, rfl, hS.F ht⟩) hS.2.2 (Nat.le_of_ble_eq_true rfl) (Nat.le_of_ble_eq_true rfl)) (fun u t H1 locs1 ht hvm hf => hf.elim)

set_option maxHeartbeats 4000000 in
set_option maxRecDepth 100000 in
theorem thX3_change_1 (l : Launch) (hlt : l.stackTraces = false) (D : va_G) (T : Nat → ClassId) (N0 : Nat) (ad : Nat → Nat) (F V : Nat → Nat → Int32) (sr : SRs) (C : Nat → Int32) (x1 x2 : Int32) (hbad : x1 < 0 ∨ nI 8 ≤ x1) : vx_Met l yX3_change wsX3_change ({ frames := 7, cells := 1, slots := 6, locals := 104 }) (cX D T N0 [.ref (ad 0), .int x1, .int x2] (fun H => PLW D T ad F V sr C H)) (va_Qv (fun (_ : Unit) => False) (fun _ _ => True) (fun q : Nat => N0 ≤ q)) (xQ IOB (fun q : Nat => N0 ≤ q)) 1 6 (fun q : Nat => N0 ≤ q) := by
  refine vx_ofW (cc := cX3_change) (maxL := 4) (ret := (some .int)) (by decide) rfl ?_
  intro p e s m args below meth c s₁ B hml hex hv9
  obtain ⟨rfl, hK, hw, hKX⟩ := hv9
  have hx := B.exec
  have hb := B.bytes
  have hts := atoms_spec (ws := wsX3_change) B.pre
  have hown : s.vm.findClass RX3 = some m.cls := findClass_of_methodNamed B.named
  have hlocks := B.notSynchronized
  have hS : va_S (fun q : Nat => N0 ≤ q) s.heap s.heap [] := va_S.rf
  have hl := lv_entry ([.ref (ad 0), .int x1, .int x2]) (n := 4) (Nat.le_of_ble_eq_true rfl)
  rw [lg_entry_eq]
  generalize (lg_sl ([.ref (ad 0), .int x1, .int x2]) ++ List.replicate (4 - (lg_sl ([.ref (ad 0), .int x1, .int x2])).length) Slot.unset).toArray = ls at hl ⊢
  have hl : lv_has ls 4 [(0, .ref (ad 0)), (1, .int x1), (2, .int x2)] := hl
  refine lv_aload_n hx hb dX3_change_0 rfl (lv_at hl 0 rfl) ?_
  refine lv_iload_n hx hb dX3_change_1 rfl (lv_at hl 1 rfl) ?_
  exact vx_callv (vx_runV (As := [.int x1]) (rest := []) ⟨hx, hb, hml, hown, hts⟩ (thX3_setAt l hlt D T N0 ad F V sr C x1 hbad) (cwV 1 hts gX3_change_X3_setAt rfl rfl rfl (by decide +kernel) ⟨Nat.le_of_ble_eq_true rfl, Nat.le_of_ble_eq_true rfl⟩) (preXV hK hKX rfl hw.o rfl hw) rfl rfl hl.1 rfl (lv_room (Nat.le_of_ble_eq_true rfl)) dX3_change_2 ⟨Nat.le_of_ble_eq_true rfl, Nat.le_of_ble_eq_true rfl⟩) hS (fun q _ h9 => h9) (fun q h9 => h9) (fun q _ h9 => h9) (fun E ce q9 u t H1 locs1 ht hvm _ hE hz hk hS hce hcv hcl => by
    subst hE
    exact vx_out (fun z hz => absurd (hex z hz) (fun f => f)) hlocks hce hcv hcl (fun t ht _ => ⟨(), trivial, rfl, hS.F ht⟩) hS.2.2 (Nat.le_of_ble_eq_true rfl) (Nat.le_of_ble_eq_true rfl)) (fun u t H1 locs1 ht hvm hf => hf.elim)

set_option maxHeartbeats 4000000 in
set_option maxRecDepth 100000 in
theorem thX3_change_2 (l : Launch) (hlt : l.stackTraces = false) (D : va_G) (T : Nat → ClassId) (N0 : Nat) (ad : Nat → Nat) (F V : Nat → Nat → Int32) (sr : SRs) (C : Nat → Int32) (k1 : Nat) (x2 : Int32) (h1 : k1 < 8) (hbad : x2 < 0 ∨ ¬ x2 ≤ nI 7) : vx_Met l yX3_change wsX3_change ({ frames := 7, cells := 1, slots := 6, locals := 103 }) (cX D T N0 [.ref (ad 0), .int (nI k1), .int x2] (fun H => PLW D T ad F V sr C H)) (va_Qv (fun (_ : Unit) => False) (fun _ _ => True) (fun q : Nat => N0 ≤ q)) (xQ IAE (fun q : Nat => N0 ≤ q)) 1 6 (fun q : Nat => N0 ≤ q) := by
  refine vx_ofW (cc := cX3_change) (maxL := 4) (ret := (some .int)) (by decide) rfl ?_
  intro p e s m args below meth c s₁ B hml hex hv9
  obtain ⟨rfl, hK, hw, hKX⟩ := hv9
  have hx := B.exec
  have hb := B.bytes
  have hts := atoms_spec (ws := wsX3_change) B.pre
  have hown : s.vm.findClass RX3 = some m.cls := findClass_of_methodNamed B.named
  have hlocks := B.notSynchronized
  have hS : va_S (fun q : Nat => N0 ≤ q) s.heap s.heap [] := va_S.rf
  have hl := lv_entry ([.ref (ad 0), .int (nI k1), .int x2]) (n := 4) (Nat.le_of_ble_eq_true rfl)
  rw [lg_entry_eq]
  generalize (lg_sl ([.ref (ad 0), .int (nI k1), .int x2]) ++ List.replicate (4 - (lg_sl ([.ref (ad 0), .int (nI k1), .int x2])).length) Slot.unset).toArray = ls at hl ⊢
  have hl : lv_has ls 4 [(0, .ref (ad 0)), (1, .int (nI k1)), (2, .int x2)] := hl
  refine lv_aload_n hx hb dX3_change_0 rfl (lv_at hl 0 rfl) ?_
  refine lv_iload_n hx hb dX3_change_1 rfl (lv_at hl 1 rfl) ?_
  refine va_csr (ad := fun k => .ref k) (va_runV (As := [.int (nI k1)]) (rest := []) ⟨hx, hb, hml, hown, hts⟩ (conX3_setAt l D T ad F V sr C k1 (by omega)) (cwV 1 hts gX3_change_X3_setAt rfl rfl rfl (by decide +kernel) ⟨Nat.le_of_ble_eq_true rfl, Nat.le_of_ble_eq_true rfl⟩) (preV hK hw.o rfl hw) rfl rfl hl.1 rfl (lv_room (Nat.le_of_ble_eq_true rfl)) dX3_change_2 ⟨Nat.le_of_ble_eq_true rfl, Nat.le_of_ble_eq_true rfl⟩).run (fun r1 hr1 => ?_)
  subst hr1
  refine lv_astore_n (lv' := [(3, .ref (ad (4 + k1))), (0, .ref (ad 0)), (1, .int (nI k1)), (2, .int x2)]) hx hb dX3_change_5 rfl hl (by decide) rfl (fun ls hl => ?_)
  refine lv_iload_n hx hb dX3_change_6 rfl (lv_at hl 3 rfl) ?_
  refine lv_bipush (v := nI 7) hx hb dX3_change_7 (by decide) ?_
  exact vx_callv (vx_runS (As := [.int x2, .int (nI 7)]) (rest := []) ⟨hx, hb, hml, hown, hts⟩ (thX3_checkChoice l hlt D T N0 x2 (nI 7) hbad) (va_cwS 2 hts gX3_change_X3_checkChoice rfl rfl rfl (by decide +kernel) ⟨Nat.le_of_ble_eq_true rfl, Nat.le_of_ble_eq_true rfl⟩) (preX hK hKX rfl trivial) rfl rfl hl.1 rfl (lv_room (Nat.le_of_ble_eq_true rfl)) dX3_change_9 ⟨Nat.le_of_ble_eq_true rfl, Nat.le_of_ble_eq_true rfl⟩) hS (fun q _ h9 => h9) (fun q h9 => h9) (fun q _ h9 => h9) (fun E ce q9 u t H1 locs1 ht hvm _ hE hz hk hS hce hcv hcl => by
    subst hE
    exact vx_out (fun z hz => absurd (hex z hz) (fun f => f)) hlocks hce hcv hcl (fun t ht _ => ⟨(), trivial, rfl, hS.F ht⟩) hS.2.2 (Nat.le_of_ble_eq_true rfl) (Nat.le_of_ble_eq_true rfl)) (fun u t H1 locs1 ht hvm hf => hf.elim)

set_option maxHeartbeats 4000000 in
set_option maxRecDepth 100000 in
theorem thX3_move_1 (l : Launch) (hlt : l.stackTraces = false) (D : va_G) (T : Nat → ClassId) (N0 : Nat) (ad : Nat → Nat) (F V : Nat → Nat → Int32) (sr : SRs) (C : Nat → Int32) (x1 x2 : Int32) (hbad : x1 < 0 ∨ nI 8 ≤ x1) : vx_Met l yX3_move wsX3_move ({ frames := 7, cells := 1, slots := 6, locals := 104 }) (cX D T N0 [.ref (ad 0), .int x1, .int x2] (fun H => PLW D T ad F V sr C H)) (va_Qv (fun (_ : Unit) => False) (fun _ _ => True) (fun q : Nat => N0 ≤ q)) (xQ IOB (fun q : Nat => N0 ≤ q)) 1 6 (fun q : Nat => N0 ≤ q) := by
  refine vx_ofW (cc := cX3_move) (maxL := 5) (ret := (some .int)) (by decide) rfl ?_
  intro p e s m args below meth c s₁ B hml hex hv9
  obtain ⟨rfl, hK, hw, hKX⟩ := hv9
  have hx := B.exec
  have hb := B.bytes
  have hts := atoms_spec (ws := wsX3_move) B.pre
  have hown : s.vm.findClass RX3 = some m.cls := findClass_of_methodNamed B.named
  have hlocks := B.notSynchronized
  have hS : va_S (fun q : Nat => N0 ≤ q) s.heap s.heap [] := va_S.rf
  have hl := lv_entry ([.ref (ad 0), .int x1, .int x2]) (n := 5) (Nat.le_of_ble_eq_true rfl)
  rw [lg_entry_eq]
  generalize (lg_sl ([.ref (ad 0), .int x1, .int x2]) ++ List.replicate (5 - (lg_sl ([.ref (ad 0), .int x1, .int x2])).length) Slot.unset).toArray = ls at hl ⊢
  have hl : lv_has ls 5 [(0, .ref (ad 0)), (1, .int x1), (2, .int x2)] := hl
  refine lv_aload_n hx hb dX3_move_0 rfl (lv_at hl 0 rfl) ?_
  refine lv_iload_n hx hb dX3_move_1 rfl (lv_at hl 1 rfl) ?_
  exact vx_callv (vx_runV (As := [.int x1]) (rest := []) ⟨hx, hb, hml, hown, hts⟩ (thX3_setAt l hlt D T N0 ad F V sr C x1 hbad) (cwV 1 hts gX3_move_X3_setAt rfl rfl rfl (by decide +kernel) ⟨Nat.le_of_ble_eq_true rfl, Nat.le_of_ble_eq_true rfl⟩) (preXV hK hKX rfl hw.o rfl hw) rfl rfl hl.1 rfl (lv_room (Nat.le_of_ble_eq_true rfl)) dX3_move_2 ⟨Nat.le_of_ble_eq_true rfl, Nat.le_of_ble_eq_true rfl⟩) hS (fun q _ h9 => h9) (fun q h9 => h9) (fun q _ h9 => h9) (fun E ce q9 u t H1 locs1 ht hvm _ hE hz hk hS hce hcv hcl => by
    subst hE
    exact vx_out (fun z hz => absurd (hex z hz) (fun f => f)) hlocks hce hcv hcl (fun t ht _ => ⟨(), trivial, rfl, hS.F ht⟩) hS.2.2 (Nat.le_of_ble_eq_true rfl) (Nat.le_of_ble_eq_true rfl)) (fun u t H1 locs1 ht hvm hf => hf.elim)

set_option maxHeartbeats 4000000 in
set_option maxRecDepth 100000 in
theorem thX3_move_2 (l : Launch) (hlt : l.stackTraces = false) (D : va_G) (T : Nat → ClassId) (N0 : Nat) (ad : Nat → Nat) (F V : Nat → Nat → Int32) (sr : SRs) (C : Nat → Int32) (k1 : Nat) (x2 : Int32) (h1 : k1 < 8) (hbad : x2 < -100 ∨ ¬ x2 ≤ nI 100) : vx_Met l yX3_move wsX3_move ({ frames := 7, cells := 1, slots := 6, locals := 102 }) (cX D T N0 [.ref (ad 0), .int (nI k1), .int x2] (fun H => PLW D T ad F V sr C H)) (va_Qv (fun (_ : Unit) => False) (fun _ _ => True) (fun q : Nat => N0 ≤ q)) (xQ IAE (fun q : Nat => N0 ≤ q)) 1 6 (fun q : Nat => N0 ≤ q) := by
  refine vx_ofW (cc := cX3_move) (maxL := 5) (ret := (some .int)) (by decide) rfl ?_
  intro p e s m args below meth c s₁ B hml hex hv9
  obtain ⟨rfl, hK, hw, hKX⟩ := hv9
  have hx := B.exec
  have hb := B.bytes
  have hts := atoms_spec (ws := wsX3_move) B.pre
  have hown : s.vm.findClass RX3 = some m.cls := findClass_of_methodNamed B.named
  have hlocks := B.notSynchronized
  have hS : va_S (fun q : Nat => N0 ≤ q) s.heap s.heap [] := va_S.rf
  have hl := lv_entry ([.ref (ad 0), .int (nI k1), .int x2]) (n := 5) (Nat.le_of_ble_eq_true rfl)
  rw [lg_entry_eq]
  generalize (lg_sl ([.ref (ad 0), .int (nI k1), .int x2]) ++ List.replicate (5 - (lg_sl ([.ref (ad 0), .int (nI k1), .int x2])).length) Slot.unset).toArray = ls at hl ⊢
  have hl : lv_has ls 5 [(0, .ref (ad 0)), (1, .int (nI k1)), (2, .int x2)] := hl
  refine lv_aload_n hx hb dX3_move_0 rfl (lv_at hl 0 rfl) ?_
  refine lv_iload_n hx hb dX3_move_1 rfl (lv_at hl 1 rfl) ?_
  refine va_csr (ad := fun k => .ref k) (va_runV (As := [.int (nI k1)]) (rest := []) ⟨hx, hb, hml, hown, hts⟩ (conX3_setAt l D T ad F V sr C k1 (by omega)) (cwV 1 hts gX3_move_X3_setAt rfl rfl rfl (by decide +kernel) ⟨Nat.le_of_ble_eq_true rfl, Nat.le_of_ble_eq_true rfl⟩) (preV hK hw.o rfl hw) rfl rfl hl.1 rfl (lv_room (Nat.le_of_ble_eq_true rfl)) dX3_move_2 ⟨Nat.le_of_ble_eq_true rfl, Nat.le_of_ble_eq_true rfl⟩).run (fun r1 hr1 => ?_)
  subst hr1
  refine lv_astore_n (lv' := [(3, .ref (ad (4 + k1))), (0, .ref (ad 0)), (1, .int (nI k1)), (2, .int x2)]) hx hb dX3_move_5 rfl hl (by decide) rfl (fun ls hl => ?_)
  refine lv_iload_n hx hb dX3_move_6 rfl (lv_at hl 3 rfl) ?_
  exact vx_callv (vx_runS (As := [.int x2]) (rest := []) ⟨hx, hb, hml, hown, hts⟩ (thX3_checkMove l hlt D T N0 x2 hbad) (va_cwS 1 hts gX3_move_X3_checkMove rfl rfl rfl (by decide +kernel) ⟨Nat.le_of_ble_eq_true rfl, Nat.le_of_ble_eq_true rfl⟩) (preX hK hKX rfl trivial) rfl rfl hl.1 rfl (lv_room (Nat.le_of_ble_eq_true rfl)) dX3_move_7 ⟨Nat.le_of_ble_eq_true rfl, Nat.le_of_ble_eq_true rfl⟩) hS (fun q _ h9 => h9) (fun q h9 => h9) (fun q _ h9 => h9) (fun E ce q9 u t H1 locs1 ht hvm _ hE hz hk hS hce hcv hcl => by
    subst hE
    exact vx_out (fun z hz => absurd (hex z hz) (fun f => f)) hlocks hce hcv hcl (fun t ht _ => ⟨(), trivial, rfl, hS.F ht⟩) hS.2.2 (Nat.le_of_ble_eq_true rfl) (Nat.le_of_ble_eq_true rfl)) (fun u t H1 locs1 ht hvm hf => hf.elim)

set_option maxHeartbeats 4000000 in
set_option maxRecDepth 100000 in
theorem thX3_stretch_1 (l : Launch) (hlt : l.stackTraces = false) (D : va_G) (T : Nat → ClassId) (N0 : Nat) (ad : Nat → Nat) (F V : Nat → Nat → Int32) (sr : SRs) (C : Nat → Int32) (x1 x2 : Int32) (hbad : x1 < 0 ∨ nI 8 ≤ x1) : vx_Met l yX3_stretch wsX3_stretch ({ frames := 7, cells := 1, slots := 6, locals := 104 }) (cX D T N0 [.ref (ad 0), .int x1, .int x2] (fun H => PLW D T ad F V sr C H)) (va_Qv (fun (_ : Unit) => False) (fun _ _ => True) (fun q : Nat => N0 ≤ q)) (xQ IOB (fun q : Nat => N0 ≤ q)) 1 6 (fun q : Nat => N0 ≤ q) := by
  refine vx_ofW (cc := cX3_stretch) (maxL := 5) (ret := (some .int)) (by decide) rfl ?_
  intro p e s m args below meth c s₁ B hml hex hv9
  obtain ⟨rfl, hK, hw, hKX⟩ := hv9
  have hx := B.exec
  have hb := B.bytes
  have hts := atoms_spec (ws := wsX3_stretch) B.pre
  have hown : s.vm.findClass RX3 = some m.cls := findClass_of_methodNamed B.named
  have hlocks := B.notSynchronized
  have hS : va_S (fun q : Nat => N0 ≤ q) s.heap s.heap [] := va_S.rf
  have hl := lv_entry ([.ref (ad 0), .int x1, .int x2]) (n := 5) (Nat.le_of_ble_eq_true rfl)
  rw [lg_entry_eq]
  generalize (lg_sl ([.ref (ad 0), .int x1, .int x2]) ++ List.replicate (5 - (lg_sl ([.ref (ad 0), .int x1, .int x2])).length) Slot.unset).toArray = ls at hl ⊢
  have hl : lv_has ls 5 [(0, .ref (ad 0)), (1, .int x1), (2, .int x2)] := hl
  refine lv_aload_n hx hb dX3_stretch_0 rfl (lv_at hl 0 rfl) ?_
  refine lv_iload_n hx hb dX3_stretch_1 rfl (lv_at hl 1 rfl) ?_
  exact vx_callv (vx_runV (As := [.int x1]) (rest := []) ⟨hx, hb, hml, hown, hts⟩ (thX3_setAt l hlt D T N0 ad F V sr C x1 hbad) (cwV 1 hts gX3_stretch_X3_setAt rfl rfl rfl (by decide +kernel) ⟨Nat.le_of_ble_eq_true rfl, Nat.le_of_ble_eq_true rfl⟩) (preXV hK hKX rfl hw.o rfl hw) rfl rfl hl.1 rfl (lv_room (Nat.le_of_ble_eq_true rfl)) dX3_stretch_2 ⟨Nat.le_of_ble_eq_true rfl, Nat.le_of_ble_eq_true rfl⟩) hS (fun q _ h9 => h9) (fun q h9 => h9) (fun q _ h9 => h9) (fun E ce q9 u t H1 locs1 ht hvm _ hE hz hk hS hce hcv hcl => by
    subst hE
    exact vx_out (fun z hz => absurd (hex z hz) (fun f => f)) hlocks hce hcv hcl (fun t ht _ => ⟨(), trivial, rfl, hS.F ht⟩) hS.2.2 (Nat.le_of_ble_eq_true rfl) (Nat.le_of_ble_eq_true rfl)) (fun u t H1 locs1 ht hvm hf => hf.elim)

set_option maxHeartbeats 4000000 in
set_option maxRecDepth 100000 in
theorem thX3_ofSet_1 (l : Launch) (hlt : l.stackTraces = false) (D : va_G) (T : Nat → ClassId) (N0 : Nat) (ad : Nat → Nat) (F V : Nat → Nat → Int32) (sr : SRs) (C : Nat → Int32) (x1 x2 : Int32) (hbad : x1 < 0 ∨ nI 8 ≤ x1) : vx_Met l yX3_ofSet wsX3_ofSet ({ frames := 7, cells := 1, slots := 6, locals := 104 }) (cX D T N0 [.ref (ad 0), .int x1, .int x2] (fun H => PLW D T ad F V sr C H)) (va_Qv (fun (_ : Unit) => False) (fun _ _ => True) (fun q : Nat => N0 ≤ q)) (xQ IOB (fun q : Nat => N0 ≤ q)) 1 6 (fun q : Nat => N0 ≤ q) := by
  refine vx_ofW (cc := cX3_ofSet) (maxL := 4) (ret := (some .int)) (by decide) rfl ?_
  intro p e s m args below meth c s₁ B hml hex hv9
  obtain ⟨rfl, hK, hw, hKX⟩ := hv9
  have hx := B.exec
  have hb := B.bytes
  have hts := atoms_spec (ws := wsX3_ofSet) B.pre
  have hown : s.vm.findClass RX3 = some m.cls := findClass_of_methodNamed B.named
  have hlocks := B.notSynchronized
  have hS : va_S (fun q : Nat => N0 ≤ q) s.heap s.heap [] := va_S.rf
  have hl := lv_entry ([.ref (ad 0), .int x1, .int x2]) (n := 4) (Nat.le_of_ble_eq_true rfl)
  rw [lg_entry_eq]
  generalize (lg_sl ([.ref (ad 0), .int x1, .int x2]) ++ List.replicate (4 - (lg_sl ([.ref (ad 0), .int x1, .int x2])).length) Slot.unset).toArray = ls at hl ⊢
  have hl : lv_has ls 4 [(0, .ref (ad 0)), (1, .int x1), (2, .int x2)] := hl
  refine lv_aload_n hx hb dX3_ofSet_0 rfl (lv_at hl 0 rfl) ?_
  refine lv_iload_n hx hb dX3_ofSet_1 rfl (lv_at hl 1 rfl) ?_
  exact vx_callv (vx_runV (As := [.int x1]) (rest := []) ⟨hx, hb, hml, hown, hts⟩ (thX3_setAt l hlt D T N0 ad F V sr C x1 hbad) (cwV 1 hts gX3_ofSet_X3_setAt rfl rfl rfl (by decide +kernel) ⟨Nat.le_of_ble_eq_true rfl, Nat.le_of_ble_eq_true rfl⟩) (preXV hK hKX rfl hw.o rfl hw) rfl rfl hl.1 rfl (lv_room (Nat.le_of_ble_eq_true rfl)) dX3_ofSet_2 ⟨Nat.le_of_ble_eq_true rfl, Nat.le_of_ble_eq_true rfl⟩) hS (fun q _ h9 => h9) (fun q h9 => h9) (fun q _ h9 => h9) (fun E ce q9 u t H1 locs1 ht hvm _ hE hz hk hS hce hcv hcl => by
    subst hE
    exact vx_out (fun z hz => absurd (hex z hz) (fun f => f)) hlocks hce hcv hcl (fun t ht _ => ⟨(), trivial, rfl, hS.F ht⟩) hS.2.2 (Nat.le_of_ble_eq_true rfl) (Nat.le_of_ble_eq_true rfl)) (fun u t H1 locs1 ht hvm hf => hf.elim)

set_option maxHeartbeats 4000000 in
set_option maxRecDepth 100000 in
theorem thX3_ofSet_2 (l : Launch) (hlt : l.stackTraces = false) (D : va_G) (T : Nat → ClassId) (N0 : Nat) (ad : Nat → Nat) (F V : Nat → Nat → Int32) (sr : SRs) (C : Nat → Int32) (k1 : Nat) (x2 : Int32) (h1 : k1 < 8) (hbad : x2 < 0 ∨ ¬ x2 ≤ nI 5) : vx_Met l yX3_ofSet wsX3_ofSet ({ frames := 7, cells := 1, slots := 6, locals := 103 }) (cX D T N0 [.ref (ad 0), .int (nI k1), .int x2] (fun H => PLW D T ad F V sr C H)) (va_Qv (fun (_ : Unit) => False) (fun _ _ => True) (fun q : Nat => N0 ≤ q)) (xQ IAE (fun q : Nat => N0 ≤ q)) 1 6 (fun q : Nat => N0 ≤ q) := by
  refine vx_ofW (cc := cX3_ofSet) (maxL := 4) (ret := (some .int)) (by decide) rfl ?_
  intro p e s m args below meth c s₁ B hml hex hv9
  obtain ⟨rfl, hK, hw, hKX⟩ := hv9
  have hx := B.exec
  have hb := B.bytes
  have hts := atoms_spec (ws := wsX3_ofSet) B.pre
  have hown : s.vm.findClass RX3 = some m.cls := findClass_of_methodNamed B.named
  have hlocks := B.notSynchronized
  have hS : va_S (fun q : Nat => N0 ≤ q) s.heap s.heap [] := va_S.rf
  have hl := lv_entry ([.ref (ad 0), .int (nI k1), .int x2]) (n := 4) (Nat.le_of_ble_eq_true rfl)
  rw [lg_entry_eq]
  generalize (lg_sl ([.ref (ad 0), .int (nI k1), .int x2]) ++ List.replicate (4 - (lg_sl ([.ref (ad 0), .int (nI k1), .int x2])).length) Slot.unset).toArray = ls at hl ⊢
  have hl : lv_has ls 4 [(0, .ref (ad 0)), (1, .int (nI k1)), (2, .int x2)] := hl
  refine lv_aload_n hx hb dX3_ofSet_0 rfl (lv_at hl 0 rfl) ?_
  refine lv_iload_n hx hb dX3_ofSet_1 rfl (lv_at hl 1 rfl) ?_
  refine va_csr (ad := fun k => .ref k) (va_runV (As := [.int (nI k1)]) (rest := []) ⟨hx, hb, hml, hown, hts⟩ (conX3_setAt l D T ad F V sr C k1 (by omega)) (cwV 1 hts gX3_ofSet_X3_setAt rfl rfl rfl (by decide +kernel) ⟨Nat.le_of_ble_eq_true rfl, Nat.le_of_ble_eq_true rfl⟩) (preV hK hw.o rfl hw) rfl rfl hl.1 rfl (lv_room (Nat.le_of_ble_eq_true rfl)) dX3_ofSet_2 ⟨Nat.le_of_ble_eq_true rfl, Nat.le_of_ble_eq_true rfl⟩).run (fun r1 hr1 => ?_)
  subst hr1
  refine lv_astore_n (lv' := [(3, .ref (ad (4 + k1))), (0, .ref (ad 0)), (1, .int (nI k1)), (2, .int x2)]) hx hb dX3_ofSet_5 rfl hl (by decide) rfl (fun ls hl => ?_)
  refine lv_iload_n hx hb dX3_ofSet_6 rfl (lv_at hl 3 rfl) ?_
  refine lv_iconst (v := nI 5) hx hb dX3_ofSet_7 (by decide) ?_
  exact vx_callv (vx_runS (As := [.int x2, .int (nI 5)]) (rest := []) ⟨hx, hb, hml, hown, hts⟩ (thX3_checkChoice l hlt D T N0 x2 (nI 5) hbad) (va_cwS 2 hts gX3_ofSet_X3_checkChoice rfl rfl rfl (by decide +kernel) ⟨Nat.le_of_ble_eq_true rfl, Nat.le_of_ble_eq_true rfl⟩) (preX hK hKX rfl trivial) rfl rfl hl.1 rfl (lv_room (Nat.le_of_ble_eq_true rfl)) dX3_ofSet_8 ⟨Nat.le_of_ble_eq_true rfl, Nat.le_of_ble_eq_true rfl⟩) hS (fun q _ h9 => h9) (fun q h9 => h9) (fun q _ h9 => h9) (fun E ce q9 u t H1 locs1 ht hvm _ hE hz hk hS hce hcv hcl => by
    subst hE
    exact vx_out (fun z hz => absurd (hex z hz) (fun f => f)) hlocks hce hcv hcl (fun t ht _ => ⟨(), trivial, rfl, hS.F ht⟩) hS.2.2 (Nat.le_of_ble_eq_true rfl) (Nat.le_of_ble_eq_true rfl)) (fun u t H1 locs1 ht hvm hf => hf.elim)

set_option maxHeartbeats 4000000 in
set_option maxRecDepth 100000 in
theorem thX3_ofSpan_1 (l : Launch) (hlt : l.stackTraces = false) (D : va_G) (T : Nat → ClassId) (N0 : Nat) (ad : Nat → Nat) (F V : Nat → Nat → Int32) (sr : SRs) (C : Nat → Int32) (x1 x2 x3 : Int32) (hbad : x1 < 0 ∨ nI 8 ≤ x1) : vx_Met l yX3_ofSpan wsX3_ofSpan ({ frames := 7, cells := 1, slots := 6, locals := 104 }) (cX D T N0 [.ref (ad 0), .int x1, .int x2, .int x3] (fun H => PLW D T ad F V sr C H)) (va_Qv (fun (_ : Unit) => False) (fun _ _ => True) (fun q : Nat => N0 ≤ q)) (xQ IOB (fun q : Nat => N0 ≤ q)) 1 6 (fun q : Nat => N0 ≤ q) := by
  refine vx_ofW (cc := cX3_ofSpan) (maxL := 4) (ret := (some .int)) (by decide) rfl ?_
  intro p e s m args below meth c s₁ B hml hex hv9
  obtain ⟨rfl, hK, hw, hKX⟩ := hv9
  have hx := B.exec
  have hb := B.bytes
  have hts := atoms_spec (ws := wsX3_ofSpan) B.pre
  have hown : s.vm.findClass RX3 = some m.cls := findClass_of_methodNamed B.named
  have hlocks := B.notSynchronized
  have hin3 : ∀ w ∈ wsX30, w ∈ wsX3_ofSpan := by decide +kernel
  have hS : va_S (fun q : Nat => N0 ≤ q) s.heap s.heap [] := va_S.rf
  have hl := lv_entry ([.ref (ad 0), .int x1, .int x2, .int x3]) (n := 4) (Nat.le_of_ble_eq_true rfl)
  rw [lg_entry_eq]
  generalize (lg_sl ([.ref (ad 0), .int x1, .int x2, .int x3]) ++ List.replicate (4 - (lg_sl ([.ref (ad 0), .int x1, .int x2, .int x3])).length) Slot.unset).toArray = ls at hl ⊢
  have hl : lv_has ls 4 [(0, .ref (ad 0)), (1, .int x1), (2, .int x2), (3, .int x3)] := hl
  refine lv_aload_n hx hb dX3_ofSpan_0 rfl (lv_at hl 0 rfl) ?_
  refine q_get (v := .ref (ad 3)) hx hb hts hin3 hown hK hw.o rfl 4 (by decide) (hts (.fieldLink RX3 34 "PuddingstoneLine" "spanRow" "LPuddingstoneLine$SpanRow;") (by decide +kernel)) (fun _ h9 => h9) rfl dX3_ofSpan_1 ?_
  refine lv_aload_n hx hb dX3_ofSpan_4 rfl (lv_at hl 0 rfl) ?_
  refine lv_iload_n hx hb dX3_ofSpan_5 rfl (lv_at hl 1 rfl) ?_
  exact vx_callv (vx_runV (As := [.int x1]) (rest := [.ref (ad 3)]) ⟨hx, hb, hml, hown, hts⟩ (thX3_setAt l hlt D T N0 ad F V sr C x1 hbad) (cwV 1 hts gX3_ofSpan_X3_setAt rfl rfl rfl (by decide +kernel) ⟨Nat.le_of_ble_eq_true rfl, Nat.le_of_ble_eq_true rfl⟩) (preXV hK hKX rfl hw.o rfl hw) rfl rfl hl.1 rfl (lv_room (Nat.le_of_ble_eq_true rfl)) dX3_ofSpan_6 ⟨Nat.le_of_ble_eq_true rfl, Nat.le_of_ble_eq_true rfl⟩) hS (fun q _ h9 => h9) (fun q h9 => h9) (fun q _ h9 => h9) (fun E ce q9 u t H1 locs1 ht hvm _ hE hz hk hS hce hcv hcl => by
    subst hE
    exact vx_out (fun z hz => absurd (hex z hz) (fun f => f)) hlocks hce hcv hcl (fun t ht _ => ⟨(), trivial, rfl, hS.F ht⟩) hS.2.2 (Nat.le_of_ble_eq_true rfl) (Nat.le_of_ble_eq_true rfl)) (fun u t H1 locs1 ht hvm hf => hf.elim)

set_option maxHeartbeats 4000000 in
set_option maxRecDepth 100000 in
theorem thX3_has_1 (l : Launch) (hlt : l.stackTraces = false) (D : va_G) (T : Nat → ClassId) (N0 : Nat) (ad : Nat → Nat) (F V : Nat → Nat → Int32) (sr : SRs) (C : Nat → Int32) (x1 x2 : Int32) (hbad : x1 < 0 ∨ nI 8 ≤ x1) : vx_Met l yX3_has wsX3_has ({ frames := 7, cells := 1, slots := 6, locals := 104 }) (cX D T N0 [.ref (ad 0), .int x1, .int x2] (fun H => PLW D T ad F V sr C H)) (va_Qv (fun (_ : Unit) => False) (fun _ _ => True) (fun q : Nat => N0 ≤ q)) (xQ IOB (fun q : Nat => N0 ≤ q)) 1 6 (fun q : Nat => N0 ≤ q) := by
  refine vx_ofW (cc := cX3_has) (maxL := 4) (ret := (some .boolean)) (by decide) rfl ?_
  intro p e s m args below meth c s₁ B hml hex hv9
  obtain ⟨rfl, hK, hw, hKX⟩ := hv9
  have hx := B.exec
  have hb := B.bytes
  have hts := atoms_spec (ws := wsX3_has) B.pre
  have hown : s.vm.findClass RX3 = some m.cls := findClass_of_methodNamed B.named
  have hlocks := B.notSynchronized
  have hS : va_S (fun q : Nat => N0 ≤ q) s.heap s.heap [] := va_S.rf
  have hl := lv_entry ([.ref (ad 0), .int x1, .int x2]) (n := 4) (Nat.le_of_ble_eq_true rfl)
  rw [lg_entry_eq]
  generalize (lg_sl ([.ref (ad 0), .int x1, .int x2]) ++ List.replicate (4 - (lg_sl ([.ref (ad 0), .int x1, .int x2])).length) Slot.unset).toArray = ls at hl ⊢
  have hl : lv_has ls 4 [(0, .ref (ad 0)), (1, .int x1), (2, .int x2)] := hl
  refine lv_aload_n hx hb dX3_has_0 rfl (lv_at hl 0 rfl) ?_
  refine lv_iload_n hx hb dX3_has_1 rfl (lv_at hl 1 rfl) ?_
  exact vx_callv (vx_runV (As := [.int x1]) (rest := []) ⟨hx, hb, hml, hown, hts⟩ (thX3_setAt l hlt D T N0 ad F V sr C x1 hbad) (cwV 1 hts gX3_has_X3_setAt rfl rfl rfl (by decide +kernel) ⟨Nat.le_of_ble_eq_true rfl, Nat.le_of_ble_eq_true rfl⟩) (preXV hK hKX rfl hw.o rfl hw) rfl rfl hl.1 rfl (lv_room (Nat.le_of_ble_eq_true rfl)) dX3_has_2 ⟨Nat.le_of_ble_eq_true rfl, Nat.le_of_ble_eq_true rfl⟩) hS (fun q _ h9 => h9) (fun q h9 => h9) (fun q _ h9 => h9) (fun E ce q9 u t H1 locs1 ht hvm _ hE hz hk hS hce hcv hcl => by
    subst hE
    exact vx_out (fun z hz => absurd (hex z hz) (fun f => f)) hlocks hce hcv hcl (fun t ht _ => ⟨(), trivial, rfl, hS.F ht⟩) hS.2.2 (Nat.le_of_ble_eq_true rfl) (Nat.le_of_ble_eq_true rfl)) (fun u t H1 locs1 ht hvm hf => hf.elim)

set_option maxHeartbeats 4000000 in
set_option maxRecDepth 100000 in
theorem thX3_has_2 (l : Launch) (hlt : l.stackTraces = false) (D : va_G) (T : Nat → ClassId) (N0 : Nat) (ad : Nat → Nat) (F V : Nat → Nat → Int32) (sr : SRs) (C : Nat → Int32) (k1 : Nat) (x2 : Int32) (h1 : k1 < 8) (hbad : x2 < 0 ∨ ¬ x2 < nI 201) : vx_Met l yX3_has wsX3_has ({ frames := 7, cells := 1, slots := 6, locals := 102 }) (cX D T N0 [.ref (ad 0), .int (nI k1), .int x2] (fun H => PLW D T ad F V sr C H)) (va_Qv (fun (_ : Unit) => False) (fun _ _ => True) (fun q : Nat => N0 ≤ q)) (xQ IOB (fun q : Nat => N0 ≤ q)) 1 6 (fun q : Nat => N0 ≤ q) := by
  refine vx_ofW (cc := cX3_has) (maxL := 4) (ret := (some .boolean)) (by decide) rfl ?_
  intro p e s m args below meth c s₁ B hml hex hv9
  obtain ⟨rfl, hK, hw, hKX⟩ := hv9
  have hx := B.exec
  have hb := B.bytes
  have hts := atoms_spec (ws := wsX3_has) B.pre
  have hown : s.vm.findClass RX3 = some m.cls := findClass_of_methodNamed B.named
  have hlocks := B.notSynchronized
  have hS : va_S (fun q : Nat => N0 ≤ q) s.heap s.heap [] := va_S.rf
  have hl := lv_entry ([.ref (ad 0), .int (nI k1), .int x2]) (n := 4) (Nat.le_of_ble_eq_true rfl)
  rw [lg_entry_eq]
  generalize (lg_sl ([.ref (ad 0), .int (nI k1), .int x2]) ++ List.replicate (4 - (lg_sl ([.ref (ad 0), .int (nI k1), .int x2])).length) Slot.unset).toArray = ls at hl ⊢
  have hl : lv_has ls 4 [(0, .ref (ad 0)), (1, .int (nI k1)), (2, .int x2)] := hl
  refine lv_aload_n hx hb dX3_has_0 rfl (lv_at hl 0 rfl) ?_
  refine lv_iload_n hx hb dX3_has_1 rfl (lv_at hl 1 rfl) ?_
  refine va_csr (ad := fun k => .ref k) (va_runV (As := [.int (nI k1)]) (rest := []) ⟨hx, hb, hml, hown, hts⟩ (conX3_setAt l D T ad F V sr C k1 (by omega)) (cwV 1 hts gX3_has_X3_setAt rfl rfl rfl (by decide +kernel) ⟨Nat.le_of_ble_eq_true rfl, Nat.le_of_ble_eq_true rfl⟩) (preV hK hw.o rfl hw) rfl rfl hl.1 rfl (lv_room (Nat.le_of_ble_eq_true rfl)) dX3_has_2 ⟨Nat.le_of_ble_eq_true rfl, Nat.le_of_ble_eq_true rfl⟩).run (fun r1 hr1 => ?_)
  subst hr1
  refine lv_astore_n (lv' := [(3, .ref (ad (4 + k1))), (0, .ref (ad 0)), (1, .int (nI k1)), (2, .int x2)]) hx hb dX3_has_5 rfl hl (by decide) rfl (fun ls hl => ?_)
  refine lv_iload_n hx hb dX3_has_6 rfl (lv_at hl 3 rfl) ?_
  exact vx_callv (vx_runS (As := [.int x2]) (rest := []) ⟨hx, hb, hml, hown, hts⟩ (thX3_checkGrain l hlt D T N0 x2 hbad) (va_cwS 1 hts gX3_has_X3_checkGrain rfl rfl rfl (by decide +kernel) ⟨Nat.le_of_ble_eq_true rfl, Nat.le_of_ble_eq_true rfl⟩) (preX hK hKX rfl trivial) rfl rfl hl.1 rfl (lv_room (Nat.le_of_ble_eq_true rfl)) dX3_has_7 ⟨Nat.le_of_ble_eq_true rfl, Nat.le_of_ble_eq_true rfl⟩) hS (fun q _ h9 => h9) (fun q h9 => h9) (fun q _ h9 => h9) (fun E ce q9 u t H1 locs1 ht hvm _ hE hz hk hS hce hcv hcl => by
    subst hE
    exact vx_out (fun z hz => absurd (hex z hz) (fun f => f)) hlocks hce hcv hcl (fun t ht _ => ⟨(), trivial, rfl, hS.F ht⟩) hS.2.2 (Nat.le_of_ble_eq_true rfl) (Nat.le_of_ble_eq_true rfl)) (fun u t H1 locs1 ht hvm hf => hf.elim)

set_option maxHeartbeats 4000000 in
set_option maxRecDepth 100000 in
theorem thX3_far_1 (l : Launch) (hlt : l.stackTraces = false) (D : va_G) (T : Nat → ClassId) (N0 : Nat) (ad : Nat → Nat) (F V : Nat → Nat → Int32) (sr : SRs) (C : Nat → Int32) (x1 x2 : Int32) (hbad : x1 < 0 ∨ nI 8 ≤ x1) : vx_Met l yX3_far wsX3_far ({ frames := 7, cells := 1, slots := 6, locals := 104 }) (cX D T N0 [.ref (ad 0), .int x1, .int x2] (fun H => PLW D T ad F V sr C H)) (va_Qv (fun (_ : Unit) => False) (fun _ _ => True) (fun q : Nat => N0 ≤ q)) (xQ IOB (fun q : Nat => N0 ≤ q)) 1 6 (fun q : Nat => N0 ≤ q) := by
  refine vx_ofW (cc := cX3_far) (maxL := 5) (ret := (some .int)) (by decide) rfl ?_
  intro p e s m args below meth c s₁ B hml hex hv9
  obtain ⟨rfl, hK, hw, hKX⟩ := hv9
  have hx := B.exec
  have hb := B.bytes
  have hts := atoms_spec (ws := wsX3_far) B.pre
  have hown : s.vm.findClass RX3 = some m.cls := findClass_of_methodNamed B.named
  have hlocks := B.notSynchronized
  have hS : va_S (fun q : Nat => N0 ≤ q) s.heap s.heap [] := va_S.rf
  have hl := lv_entry ([.ref (ad 0), .int x1, .int x2]) (n := 5) (Nat.le_of_ble_eq_true rfl)
  rw [lg_entry_eq]
  generalize (lg_sl ([.ref (ad 0), .int x1, .int x2]) ++ List.replicate (5 - (lg_sl ([.ref (ad 0), .int x1, .int x2])).length) Slot.unset).toArray = ls at hl ⊢
  have hl : lv_has ls 5 [(0, .ref (ad 0)), (1, .int x1), (2, .int x2)] := hl
  refine lv_aload_n hx hb dX3_far_0 rfl (lv_at hl 0 rfl) ?_
  refine lv_iload_n hx hb dX3_far_1 rfl (lv_at hl 1 rfl) ?_
  exact vx_callv (vx_runV (As := [.int x1]) (rest := []) ⟨hx, hb, hml, hown, hts⟩ (thX3_setAt l hlt D T N0 ad F V sr C x1 hbad) (cwV 1 hts gX3_far_X3_setAt rfl rfl rfl (by decide +kernel) ⟨Nat.le_of_ble_eq_true rfl, Nat.le_of_ble_eq_true rfl⟩) (preXV hK hKX rfl hw.o rfl hw) rfl rfl hl.1 rfl (lv_room (Nat.le_of_ble_eq_true rfl)) dX3_far_2 ⟨Nat.le_of_ble_eq_true rfl, Nat.le_of_ble_eq_true rfl⟩) hS (fun q _ h9 => h9) (fun q h9 => h9) (fun q _ h9 => h9) (fun E ce q9 u t H1 locs1 ht hvm _ hE hz hk hS hce hcv hcl => by
    subst hE
    exact vx_out (fun z hz => absurd (hex z hz) (fun f => f)) hlocks hce hcv hcl (fun t ht _ => ⟨(), trivial, rfl, hS.F ht⟩) hS.2.2 (Nat.le_of_ble_eq_true rfl) (Nat.le_of_ble_eq_true rfl)) (fun u t H1 locs1 ht hvm hf => hf.elim)

set_option maxHeartbeats 4000000 in
set_option maxRecDepth 100000 in
theorem thX3_far_2 (l : Launch) (hlt : l.stackTraces = false) (D : va_G) (T : Nat → ClassId) (N0 : Nat) (ad : Nat → Nat) (F V : Nat → Nat → Int32) (sr : SRs) (C : Nat → Int32) (k1 : Nat) (x2 : Int32) (h1 : k1 < 8) (hbad : x2 < 0 ∨ ¬ x2 < nI 201) : vx_Met l yX3_far wsX3_far ({ frames := 7, cells := 1, slots := 6, locals := 102 }) (cX D T N0 [.ref (ad 0), .int (nI k1), .int x2] (fun H => PLW D T ad F V sr C H)) (va_Qv (fun (_ : Unit) => False) (fun _ _ => True) (fun q : Nat => N0 ≤ q)) (xQ IOB (fun q : Nat => N0 ≤ q)) 1 6 (fun q : Nat => N0 ≤ q) := by
  refine vx_ofW (cc := cX3_far) (maxL := 5) (ret := (some .int)) (by decide) rfl ?_
  intro p e s m args below meth c s₁ B hml hex hv9
  obtain ⟨rfl, hK, hw, hKX⟩ := hv9
  have hx := B.exec
  have hb := B.bytes
  have hts := atoms_spec (ws := wsX3_far) B.pre
  have hown : s.vm.findClass RX3 = some m.cls := findClass_of_methodNamed B.named
  have hlocks := B.notSynchronized
  have hS : va_S (fun q : Nat => N0 ≤ q) s.heap s.heap [] := va_S.rf
  have hl := lv_entry ([.ref (ad 0), .int (nI k1), .int x2]) (n := 5) (Nat.le_of_ble_eq_true rfl)
  rw [lg_entry_eq]
  generalize (lg_sl ([.ref (ad 0), .int (nI k1), .int x2]) ++ List.replicate (5 - (lg_sl ([.ref (ad 0), .int (nI k1), .int x2])).length) Slot.unset).toArray = ls at hl ⊢
  have hl : lv_has ls 5 [(0, .ref (ad 0)), (1, .int (nI k1)), (2, .int x2)] := hl
  refine lv_aload_n hx hb dX3_far_0 rfl (lv_at hl 0 rfl) ?_
  refine lv_iload_n hx hb dX3_far_1 rfl (lv_at hl 1 rfl) ?_
  refine va_csr (ad := fun k => .ref k) (va_runV (As := [.int (nI k1)]) (rest := []) ⟨hx, hb, hml, hown, hts⟩ (conX3_setAt l D T ad F V sr C k1 (by omega)) (cwV 1 hts gX3_far_X3_setAt rfl rfl rfl (by decide +kernel) ⟨Nat.le_of_ble_eq_true rfl, Nat.le_of_ble_eq_true rfl⟩) (preV hK hw.o rfl hw) rfl rfl hl.1 rfl (lv_room (Nat.le_of_ble_eq_true rfl)) dX3_far_2 ⟨Nat.le_of_ble_eq_true rfl, Nat.le_of_ble_eq_true rfl⟩).run (fun r1 hr1 => ?_)
  subst hr1
  refine lv_astore_n (lv' := [(3, .ref (ad (4 + k1))), (0, .ref (ad 0)), (1, .int (nI k1)), (2, .int x2)]) hx hb dX3_far_5 rfl hl (by decide) rfl (fun ls hl => ?_)
  refine lv_iload_n hx hb dX3_far_6 rfl (lv_at hl 3 rfl) ?_
  exact vx_callv (vx_runS (As := [.int x2]) (rest := []) ⟨hx, hb, hml, hown, hts⟩ (thX3_checkGrain l hlt D T N0 x2 hbad) (va_cwS 1 hts gX3_far_X3_checkGrain rfl rfl rfl (by decide +kernel) ⟨Nat.le_of_ble_eq_true rfl, Nat.le_of_ble_eq_true rfl⟩) (preX hK hKX rfl trivial) rfl rfl hl.1 rfl (lv_room (Nat.le_of_ble_eq_true rfl)) dX3_far_7 ⟨Nat.le_of_ble_eq_true rfl, Nat.le_of_ble_eq_true rfl⟩) hS (fun q _ h9 => h9) (fun q h9 => h9) (fun q _ h9 => h9) (fun E ce q9 u t H1 locs1 ht hvm _ hE hz hk hS hce hcv hcl => by
    subst hE
    exact vx_out (fun z hz => absurd (hex z hz) (fun f => f)) hlocks hce hcv hcl (fun t ht _ => ⟨(), trivial, rfl, hS.F ht⟩) hS.2.2 (Nat.le_of_ble_eq_true rfl) (Nat.le_of_ble_eq_true rfl)) (fun u t H1 locs1 ht hvm hf => hf.elim)

set_option maxHeartbeats 4000000 in
set_option maxRecDepth 100000 in
theorem thX3_beside_1 (l : Launch) (hlt : l.stackTraces = false) (D : va_G) (T : Nat → ClassId) (N0 : Nat) (ad : Nat → Nat) (F V : Nat → Nat → Int32) (sr : SRs) (C : Nat → Int32) (x1 x2 : Int32) (hbad : x1 < 0 ∨ nI 8 ≤ x1) : vx_Met l yX3_beside wsX3_beside ({ frames := 7, cells := 1, slots := 6, locals := 104 }) (cX D T N0 [.ref (ad 0), .int x1, .int x2] (fun H => PLW D T ad F V sr C H)) (va_Qv (fun (_ : Unit) => False) (fun _ _ => True) (fun q : Nat => N0 ≤ q)) (xQ IOB (fun q : Nat => N0 ≤ q)) 1 6 (fun q : Nat => N0 ≤ q) := by
  refine vx_ofW (cc := cX3_beside) (maxL := 7) (ret := (some .int)) (by decide) rfl ?_
  intro p e s m args below meth c s₁ B hml hex hv9
  obtain ⟨rfl, hK, hw, hKX⟩ := hv9
  have hx := B.exec
  have hb := B.bytes
  have hts := atoms_spec (ws := wsX3_beside) B.pre
  have hown : s.vm.findClass RX3 = some m.cls := findClass_of_methodNamed B.named
  have hlocks := B.notSynchronized
  have hS : va_S (fun q : Nat => N0 ≤ q) s.heap s.heap [] := va_S.rf
  have hl := lv_entry ([.ref (ad 0), .int x1, .int x2]) (n := 7) (Nat.le_of_ble_eq_true rfl)
  rw [lg_entry_eq]
  generalize (lg_sl ([.ref (ad 0), .int x1, .int x2]) ++ List.replicate (7 - (lg_sl ([.ref (ad 0), .int x1, .int x2])).length) Slot.unset).toArray = ls at hl ⊢
  have hl : lv_has ls 7 [(0, .ref (ad 0)), (1, .int x1), (2, .int x2)] := hl
  refine lv_aload_n hx hb dX3_beside_0 rfl (lv_at hl 0 rfl) ?_
  refine lv_iload_n hx hb dX3_beside_1 rfl (lv_at hl 1 rfl) ?_
  exact vx_callv (vx_runV (As := [.int x1]) (rest := []) ⟨hx, hb, hml, hown, hts⟩ (thX3_setAt l hlt D T N0 ad F V sr C x1 hbad) (cwV 1 hts gX3_beside_X3_setAt rfl rfl rfl (by decide +kernel) ⟨Nat.le_of_ble_eq_true rfl, Nat.le_of_ble_eq_true rfl⟩) (preXV hK hKX rfl hw.o rfl hw) rfl rfl hl.1 rfl (lv_room (Nat.le_of_ble_eq_true rfl)) dX3_beside_2 ⟨Nat.le_of_ble_eq_true rfl, Nat.le_of_ble_eq_true rfl⟩) hS (fun q _ h9 => h9) (fun q h9 => h9) (fun q _ h9 => h9) (fun E ce q9 u t H1 locs1 ht hvm _ hE hz hk hS hce hcv hcl => by
    subst hE
    exact vx_out (fun z hz => absurd (hex z hz) (fun f => f)) hlocks hce hcv hcl (fun t ht _ => ⟨(), trivial, rfl, hS.F ht⟩) hS.2.2 (Nat.le_of_ble_eq_true rfl) (Nat.le_of_ble_eq_true rfl)) (fun u t H1 locs1 ht hvm hf => hf.elim)

set_option maxHeartbeats 4000000 in
set_option maxRecDepth 100000 in
theorem thX3_beside_2 (l : Launch) (hlt : l.stackTraces = false) (D : va_G) (T : Nat → ClassId) (N0 : Nat) (ad : Nat → Nat) (F V : Nat → Nat → Int32) (sr : SRs) (C : Nat → Int32) (k1 : Nat) (x2 : Int32) (h1 : k1 < 8) (hbad : x2 < 0 ∨ nI 8 ≤ x2) : vx_Met l yX3_beside wsX3_beside ({ frames := 7, cells := 1, slots := 6, locals := 104 }) (cX D T N0 [.ref (ad 0), .int (nI k1), .int x2] (fun H => PLW D T ad F V sr C H)) (va_Qv (fun (_ : Unit) => False) (fun _ _ => True) (fun q : Nat => N0 ≤ q)) (xQ IOB (fun q : Nat => N0 ≤ q)) 1 6 (fun q : Nat => N0 ≤ q) := by
  refine vx_ofW (cc := cX3_beside) (maxL := 7) (ret := (some .int)) (by decide) rfl ?_
  intro p e s m args below meth c s₁ B hml hex hv9
  obtain ⟨rfl, hK, hw, hKX⟩ := hv9
  have hx := B.exec
  have hb := B.bytes
  have hts := atoms_spec (ws := wsX3_beside) B.pre
  have hown : s.vm.findClass RX3 = some m.cls := findClass_of_methodNamed B.named
  have hlocks := B.notSynchronized
  have hS : va_S (fun q : Nat => N0 ≤ q) s.heap s.heap [] := va_S.rf
  have hl := lv_entry ([.ref (ad 0), .int (nI k1), .int x2]) (n := 7) (Nat.le_of_ble_eq_true rfl)
  rw [lg_entry_eq]
  generalize (lg_sl ([.ref (ad 0), .int (nI k1), .int x2]) ++ List.replicate (7 - (lg_sl ([.ref (ad 0), .int (nI k1), .int x2])).length) Slot.unset).toArray = ls at hl ⊢
  have hl : lv_has ls 7 [(0, .ref (ad 0)), (1, .int (nI k1)), (2, .int x2)] := hl
  refine lv_aload_n hx hb dX3_beside_0 rfl (lv_at hl 0 rfl) ?_
  refine lv_iload_n hx hb dX3_beside_1 rfl (lv_at hl 1 rfl) ?_
  refine va_csr (ad := fun k => .ref k) (va_runV (As := [.int (nI k1)]) (rest := []) ⟨hx, hb, hml, hown, hts⟩ (conX3_setAt l D T ad F V sr C k1 (by omega)) (cwV 1 hts gX3_beside_X3_setAt rfl rfl rfl (by decide +kernel) ⟨Nat.le_of_ble_eq_true rfl, Nat.le_of_ble_eq_true rfl⟩) (preV hK hw.o rfl hw) rfl rfl hl.1 rfl (lv_room (Nat.le_of_ble_eq_true rfl)) dX3_beside_2 ⟨Nat.le_of_ble_eq_true rfl, Nat.le_of_ble_eq_true rfl⟩).run (fun r1 hr1 => ?_)
  subst hr1
  refine lv_astore_n (lv' := [(3, .ref (ad (4 + k1))), (0, .ref (ad 0)), (1, .int (nI k1)), (2, .int x2)]) hx hb dX3_beside_5 rfl hl (by decide) rfl (fun ls hl => ?_)
  refine lv_aload_n hx hb dX3_beside_6 rfl (lv_at hl 1 rfl) ?_
  refine lv_iload_n hx hb dX3_beside_7 rfl (lv_at hl 3 rfl) ?_
  exact vx_callv (vx_runV (As := [.int x2]) (rest := []) ⟨hx, hb, hml, hown, hts⟩ (thX3_setAt l hlt D T N0 ad F V sr C x2 hbad) (cwV 1 hts gX3_beside_X3_setAt rfl rfl rfl (by decide +kernel) ⟨Nat.le_of_ble_eq_true rfl, Nat.le_of_ble_eq_true rfl⟩) (preXV hK hKX rfl hw.o rfl hw) rfl rfl hl.1 rfl (lv_room (Nat.le_of_ble_eq_true rfl)) dX3_beside_8 ⟨Nat.le_of_ble_eq_true rfl, Nat.le_of_ble_eq_true rfl⟩) hS (fun q _ h9 => h9) (fun q h9 => h9) (fun q _ h9 => h9) (fun E ce q9 u t H1 locs1 ht hvm _ hE hz hk hS hce hcv hcl => by
    subst hE
    exact vx_out (fun z hz => absurd (hex z hz) (fun f => f)) hlocks hce hcv hcl (fun t ht _ => ⟨(), trivial, rfl, hS.F ht⟩) hS.2.2 (Nat.le_of_ble_eq_true rfl) (Nat.le_of_ble_eq_true rfl)) (fun u t H1 locs1 ht hvm hf => hf.elim)

set_option maxHeartbeats 4000000 in
set_option maxRecDepth 100000 in
theorem thX3_raise_1 (l : Launch) (hlt : l.stackTraces = false) (D : va_G) (T : Nat → ClassId) (N0 : Nat) (ad : Nat → Nat) (F V : Nat → Nat → Int32) (sr : SRs) (C : Nat → Int32) (x1 x2 x3 x4 x5 : Int32) (hbad : x1 < 0 ∨ nI 5 ≤ x1) : vx_Met l yX3_raise wsX3_raise ({ frames := 7, cells := 1, slots := 6, locals := 104 }) (cX D T N0 [.ref (ad 0), .int x1, .int x2, .int x3, .int x4, .int x5] (fun H => PLW D T ad F V sr C H)) (va_Qv (fun (_ : Unit) => False) (fun _ _ => True) (fun q : Nat => N0 ≤ q)) (xQ IOB (fun q : Nat => N0 ≤ q)) 1 6 (fun q : Nat => N0 ≤ q) := by
  refine vx_ofW (cc := cX3_raise) (maxL := 9) (ret := (some .int)) (by decide) rfl ?_
  intro p e s m args below meth c s₁ B hml hex hv9
  obtain ⟨rfl, hK, hw, hKX⟩ := hv9
  have hx := B.exec
  have hb := B.bytes
  have hts := atoms_spec (ws := wsX3_raise) B.pre
  have hown : s.vm.findClass RX3 = some m.cls := findClass_of_methodNamed B.named
  have hlocks := B.notSynchronized
  have hS : va_S (fun q : Nat => N0 ≤ q) s.heap s.heap [] := va_S.rf
  have hl := lv_entry ([.ref (ad 0), .int x1, .int x2, .int x3, .int x4, .int x5]) (n := 9) (Nat.le_of_ble_eq_true rfl)
  rw [lg_entry_eq]
  generalize (lg_sl ([.ref (ad 0), .int x1, .int x2, .int x3, .int x4, .int x5]) ++ List.replicate (9 - (lg_sl ([.ref (ad 0), .int x1, .int x2, .int x3, .int x4, .int x5])).length) Slot.unset).toArray = ls at hl ⊢
  have hl : lv_has ls 9 [(0, .ref (ad 0)), (1, .int x1), (2, .int x2), (3, .int x3), (4, .int x4), (5, .int x5)] := hl
  refine lv_aload_n hx hb dX3_raise_0 rfl (lv_at hl 0 rfl) ?_
  refine lv_iload_n hx hb dX3_raise_1 rfl (lv_at hl 1 rfl) ?_
  exact vx_callv (vx_runV (As := [.int x1]) (rest := []) ⟨hx, hb, hml, hown, hts⟩ (thX3_functionAt l hlt D T N0 ad F V sr C x1 hbad) (cwV 1 hts gX3_raise_X3_functionAt rfl rfl rfl (by decide +kernel) ⟨Nat.le_of_ble_eq_true rfl, Nat.le_of_ble_eq_true rfl⟩) (preXV hK hKX rfl hw.o rfl hw) rfl rfl hl.1 rfl (lv_room (Nat.le_of_ble_eq_true rfl)) dX3_raise_2 ⟨Nat.le_of_ble_eq_true rfl, Nat.le_of_ble_eq_true rfl⟩) hS (fun q _ h9 => h9) (fun q h9 => h9) (fun q _ h9 => h9) (fun E ce q9 u t H1 locs1 ht hvm _ hE hz hk hS hce hcv hcl => by
    subst hE
    exact vx_out (fun z hz => absurd (hex z hz) (fun f => f)) hlocks hce hcv hcl (fun t ht _ => ⟨(), trivial, rfl, hS.F ht⟩) hS.2.2 (Nat.le_of_ble_eq_true rfl) (Nat.le_of_ble_eq_true rfl)) (fun u t H1 locs1 ht hvm hf => hf.elim)

set_option maxHeartbeats 4000000 in
set_option maxRecDepth 100000 in
theorem thX3_raise_2 (l : Launch) (hlt : l.stackTraces = false) (D : va_G) (T : Nat → ClassId) (N0 : Nat) (ad : Nat → Nat) (F V : Nat → Nat → Int32) (sr : SRs) (C : Nat → Int32) (k1 : Nat) (x2 x3 x4 x5 : Int32) (h1 : k1 < 5) (hbad : (x2 < 0 ∨ nI 100 < x3 ∨ x3 < x2) ∨ (x4 < 0 ∨ ¬ x4 ≤ nI 3)) : vx_Met l yX3_raise wsX3_raise ({ frames := 8, cells := 1, slots := 6, locals := 125 }) (cX D T N0 [.ref (ad 0), .int (nI k1), .int x2, .int x3, .int x4, .int x5] (fun H => PLW D T ad F V sr C H)) (va_Qv (fun (_ : Unit) => False) (fun _ _ => True) (fun q : Nat => N0 ≤ q)) (xQ IAE (fun q : Nat => N0 ≤ q)) 1 6 (fun q : Nat => N0 ≤ q) := by
  refine vx_ofW (cc := cX3_raise) (maxL := 9) (ret := (some .int)) (by decide) rfl ?_
  intro p e s m args below meth c s₁ B hml hex hv9
  obtain ⟨rfl, hK, hw, hKX⟩ := hv9
  have hx := B.exec
  have hb := B.bytes
  have hts := atoms_spec (ws := wsX3_raise) B.pre
  have hown : s.vm.findClass RX3 = some m.cls := findClass_of_methodNamed B.named
  have hlocks := B.notSynchronized
  have hS : va_S (fun q : Nat => N0 ≤ q) s.heap s.heap [] := va_S.rf
  have hl := lv_entry ([.ref (ad 0), .int (nI k1), .int x2, .int x3, .int x4, .int x5]) (n := 9) (Nat.le_of_ble_eq_true rfl)
  rw [lg_entry_eq]
  generalize (lg_sl ([.ref (ad 0), .int (nI k1), .int x2, .int x3, .int x4, .int x5]) ++ List.replicate (9 - (lg_sl ([.ref (ad 0), .int (nI k1), .int x2, .int x3, .int x4, .int x5])).length) Slot.unset).toArray = ls at hl ⊢
  have hl : lv_has ls 9 [(0, .ref (ad 0)), (1, .int (nI k1)), (2, .int x2), (3, .int x3), (4, .int x4), (5, .int x5)] := hl
  refine lv_aload_n hx hb dX3_raise_0 rfl (lv_at hl 0 rfl) ?_
  refine lv_iload_n hx hb dX3_raise_1 rfl (lv_at hl 1 rfl) ?_
  refine va_csr (ad := fun k => .ref k) (va_runV (As := [.int (nI k1)]) (rest := []) ⟨hx, hb, hml, hown, hts⟩ (conX3_functionAt l D T ad F V sr C k1 (by omega)) (cwV 1 hts gX3_raise_X3_functionAt rfl rfl rfl (by decide +kernel) ⟨Nat.le_of_ble_eq_true rfl, Nat.le_of_ble_eq_true rfl⟩) (preV hK hw.o rfl hw) rfl rfl hl.1 rfl (lv_room (Nat.le_of_ble_eq_true rfl)) dX3_raise_2 ⟨Nat.le_of_ble_eq_true rfl, Nat.le_of_ble_eq_true rfl⟩).run (fun r1 hr1 => ?_)
  subst hr1
  refine lv_astore (lv' := [(6, .ref (ad (22 + k1))), (0, .ref (ad 0)), (1, .int (nI k1)), (2, .int x2), (3, .int x3), (4, .int x4), (5, .int x5)]) hx hb dX3_raise_5 hl (by decide) rfl (fun ls hl => ?_)
  refine lv_iload_n hx hb dX3_raise_7 rfl (lv_at hl 3 rfl) ?_
  refine lv_iload_n hx hb dX3_raise_8 rfl (lv_at hl 4 rfl) ?_
  refine lv_iload hx hb dX3_raise_9 (lv_at hl 5 rfl) ?_
  exact vx_callv (vx_runS (As := [.int x2, .int x3, .int x4]) (rest := []) ⟨hx, hb, hml, hown, hts⟩ (thX3_checkSpan l hlt D T N0 x2 x3 x4 hbad) (va_cwS 3 hts gX3_raise_X3_checkSpan rfl rfl rfl (by decide +kernel) ⟨Nat.le_of_ble_eq_true rfl, Nat.le_of_ble_eq_true rfl⟩) (preX hK hKX rfl trivial) rfl rfl hl.1 rfl (lv_room (Nat.le_of_ble_eq_true rfl)) dX3_raise_11 ⟨Nat.le_of_ble_eq_true rfl, Nat.le_of_ble_eq_true rfl⟩) hS (fun q _ h9 => h9) (fun q h9 => h9) (fun q _ h9 => h9) (fun E ce q9 u t H1 locs1 ht hvm _ hE hz hk hS hce hcv hcl => by
    subst hE
    exact vx_out (fun z hz => absurd (hex z hz) (fun f => f)) hlocks hce hcv hcl (fun t ht _ => ⟨(), trivial, rfl, hS.F ht⟩) hS.2.2 (Nat.le_of_ble_eq_true rfl) (Nat.le_of_ble_eq_true rfl)) (fun u t H1 locs1 ht hvm hf => hf.elim)

set_option maxHeartbeats 4000000 in
set_option maxRecDepth 100000 in
theorem thX3_set_1 (l : Launch) (hlt : l.stackTraces = false) (D : va_G) (T : Nat → ClassId) (N0 : Nat) (ad : Nat → Nat) (F V : Nat → Nat → Int32) (sr : SRs) (C : Nat → Int32) (x1 x2 x3 : Int32) (hbad : x1 < 0 ∨ nI 5 ≤ x1) : vx_Met l yX3_set wsX3_set ({ frames := 7, cells := 1, slots := 6, locals := 104 }) (cX D T N0 [.ref (ad 0), .int x1, .int x2, .int x3] (fun H => PLW D T ad F V sr C H)) (va_Qv (fun (_ : Unit) => False) (fun _ _ => True) (fun q : Nat => N0 ≤ q)) (xQ IOB (fun q : Nat => N0 ≤ q)) 1 6 (fun q : Nat => N0 ≤ q) := by
  refine vx_ofW (cc := cX3_set) (maxL := 7) (ret := (some .int)) (by decide) rfl ?_
  intro p e s m args below meth c s₁ B hml hex hv9
  obtain ⟨rfl, hK, hw, hKX⟩ := hv9
  have hx := B.exec
  have hb := B.bytes
  have hts := atoms_spec (ws := wsX3_set) B.pre
  have hown : s.vm.findClass RX3 = some m.cls := findClass_of_methodNamed B.named
  have hlocks := B.notSynchronized
  have hS : va_S (fun q : Nat => N0 ≤ q) s.heap s.heap [] := va_S.rf
  have hl := lv_entry ([.ref (ad 0), .int x1, .int x2, .int x3]) (n := 7) (Nat.le_of_ble_eq_true rfl)
  rw [lg_entry_eq]
  generalize (lg_sl ([.ref (ad 0), .int x1, .int x2, .int x3]) ++ List.replicate (7 - (lg_sl ([.ref (ad 0), .int x1, .int x2, .int x3])).length) Slot.unset).toArray = ls at hl ⊢
  have hl : lv_has ls 7 [(0, .ref (ad 0)), (1, .int x1), (2, .int x2), (3, .int x3)] := hl
  refine lv_aload_n hx hb dX3_set_0 rfl (lv_at hl 0 rfl) ?_
  refine lv_iload_n hx hb dX3_set_1 rfl (lv_at hl 1 rfl) ?_
  exact vx_callv (vx_runV (As := [.int x1]) (rest := []) ⟨hx, hb, hml, hown, hts⟩ (thX3_functionAt l hlt D T N0 ad F V sr C x1 hbad) (cwV 1 hts gX3_set_X3_functionAt rfl rfl rfl (by decide +kernel) ⟨Nat.le_of_ble_eq_true rfl, Nat.le_of_ble_eq_true rfl⟩) (preXV hK hKX rfl hw.o rfl hw) rfl rfl hl.1 rfl (lv_room (Nat.le_of_ble_eq_true rfl)) dX3_set_2 ⟨Nat.le_of_ble_eq_true rfl, Nat.le_of_ble_eq_true rfl⟩) hS (fun q _ h9 => h9) (fun q h9 => h9) (fun q _ h9 => h9) (fun E ce q9 u t H1 locs1 ht hvm _ hE hz hk hS hce hcv hcl => by
    subst hE
    exact vx_out (fun z hz => absurd (hex z hz) (fun f => f)) hlocks hce hcv hcl (fun t ht _ => ⟨(), trivial, rfl, hS.F ht⟩) hS.2.2 (Nat.le_of_ble_eq_true rfl) (Nat.le_of_ble_eq_true rfl)) (fun u t H1 locs1 ht hvm hf => hf.elim)

set_option maxHeartbeats 4000000 in
set_option maxRecDepth 100000 in
theorem thX3_set_2 (l : Launch) (hlt : l.stackTraces = false) (D : va_G) (T : Nat → ClassId) (N0 : Nat) (ad : Nat → Nat) (F V : Nat → Nat → Int32) (sr : SRs) (C : Nat → Int32) (k1 : Nat) (x2 x3 : Int32) (h1 : k1 < 5) (hbad : x2 < 0 ∨ nI 8 ≤ x2) : vx_Met l yX3_set wsX3_set ({ frames := 7, cells := 1, slots := 6, locals := 104 }) (cX D T N0 [.ref (ad 0), .int (nI k1), .int x2, .int x3] (fun H => PLW D T ad F V sr C H)) (va_Qv (fun (_ : Unit) => False) (fun _ _ => True) (fun q : Nat => N0 ≤ q)) (xQ IOB (fun q : Nat => N0 ≤ q)) 1 6 (fun q : Nat => N0 ≤ q) := by
  refine vx_ofW (cc := cX3_set) (maxL := 7) (ret := (some .int)) (by decide) rfl ?_
  intro p e s m args below meth c s₁ B hml hex hv9
  obtain ⟨rfl, hK, hw, hKX⟩ := hv9
  have hx := B.exec
  have hb := B.bytes
  have hts := atoms_spec (ws := wsX3_set) B.pre
  have hown : s.vm.findClass RX3 = some m.cls := findClass_of_methodNamed B.named
  have hlocks := B.notSynchronized
  have hS : va_S (fun q : Nat => N0 ≤ q) s.heap s.heap [] := va_S.rf
  have hl := lv_entry ([.ref (ad 0), .int (nI k1), .int x2, .int x3]) (n := 7) (Nat.le_of_ble_eq_true rfl)
  rw [lg_entry_eq]
  generalize (lg_sl ([.ref (ad 0), .int (nI k1), .int x2, .int x3]) ++ List.replicate (7 - (lg_sl ([.ref (ad 0), .int (nI k1), .int x2, .int x3])).length) Slot.unset).toArray = ls at hl ⊢
  have hl : lv_has ls 7 [(0, .ref (ad 0)), (1, .int (nI k1)), (2, .int x2), (3, .int x3)] := hl
  refine lv_aload_n hx hb dX3_set_0 rfl (lv_at hl 0 rfl) ?_
  refine lv_iload_n hx hb dX3_set_1 rfl (lv_at hl 1 rfl) ?_
  refine va_csr (ad := fun k => .ref k) (va_runV (As := [.int (nI k1)]) (rest := []) ⟨hx, hb, hml, hown, hts⟩ (conX3_functionAt l D T ad F V sr C k1 (by omega)) (cwV 1 hts gX3_set_X3_functionAt rfl rfl rfl (by decide +kernel) ⟨Nat.le_of_ble_eq_true rfl, Nat.le_of_ble_eq_true rfl⟩) (preV hK hw.o rfl hw) rfl rfl hl.1 rfl (lv_room (Nat.le_of_ble_eq_true rfl)) dX3_set_2 ⟨Nat.le_of_ble_eq_true rfl, Nat.le_of_ble_eq_true rfl⟩).run (fun r1 hr1 => ?_)
  subst hr1
  refine lv_astore (lv' := [(4, .ref (ad (22 + k1))), (0, .ref (ad 0)), (1, .int (nI k1)), (2, .int x2), (3, .int x3)]) hx hb dX3_set_5 hl (by decide) rfl (fun ls hl => ?_)
  refine lv_aload_n hx hb dX3_set_7 rfl (lv_at hl 1 rfl) ?_
  refine lv_iload_n hx hb dX3_set_8 rfl (lv_at hl 3 rfl) ?_
  exact vx_callv (vx_runV (As := [.int x2]) (rest := []) ⟨hx, hb, hml, hown, hts⟩ (thX3_setAt l hlt D T N0 ad F V sr C x2 hbad) (cwV 1 hts gX3_set_X3_setAt rfl rfl rfl (by decide +kernel) ⟨Nat.le_of_ble_eq_true rfl, Nat.le_of_ble_eq_true rfl⟩) (preXV hK hKX rfl hw.o rfl hw) rfl rfl hl.1 rfl (lv_room (Nat.le_of_ble_eq_true rfl)) dX3_set_9 ⟨Nat.le_of_ble_eq_true rfl, Nat.le_of_ble_eq_true rfl⟩) hS (fun q _ h9 => h9) (fun q h9 => h9) (fun q _ h9 => h9) (fun E ce q9 u t H1 locs1 ht hvm _ hE hz hk hS hce hcv hcl => by
    subst hE
    exact vx_out (fun z hz => absurd (hex z hz) (fun f => f)) hlocks hce hcv hcl (fun t ht _ => ⟨(), trivial, rfl, hS.F ht⟩) hS.2.2 (Nat.le_of_ble_eq_true rfl) (Nat.le_of_ble_eq_true rfl)) (fun u t H1 locs1 ht hvm hf => hf.elim)

set_option maxHeartbeats 4000000 in
set_option maxRecDepth 100000 in
theorem thX3_mix_1 (l : Launch) (hlt : l.stackTraces = false) (D : va_G) (T : Nat → ClassId) (N0 : Nat) (ad : Nat → Nat) (F V : Nat → Nat → Int32) (sr : SRs) (C : Nat → Int32) (x1 x2 x3 x4 : Int32) (hbad : x1 < 0 ∨ nI 5 ≤ x1) : vx_Met l yX3_mix wsX3_mix ({ frames := 7, cells := 1, slots := 6, locals := 104 }) (cX D T N0 [.ref (ad 0), .int x1, .int x2, .int x3, .int x4] (fun H => PLW D T ad F V sr C H)) (va_Qv (fun (_ : Unit) => False) (fun _ _ => True) (fun q : Nat => N0 ≤ q)) (xQ IOB (fun q : Nat => N0 ≤ q)) 1 6 (fun q : Nat => N0 ≤ q) := by
  refine vx_ofW (cc := cX3_mix) (maxL := 9) (ret := (some .int)) (by decide) rfl ?_
  intro p e s m args below meth c s₁ B hml hex hv9
  obtain ⟨rfl, hK, hw, hKX⟩ := hv9
  have hx := B.exec
  have hb := B.bytes
  have hts := atoms_spec (ws := wsX3_mix) B.pre
  have hown : s.vm.findClass RX3 = some m.cls := findClass_of_methodNamed B.named
  have hlocks := B.notSynchronized
  have hS : va_S (fun q : Nat => N0 ≤ q) s.heap s.heap [] := va_S.rf
  have hl := lv_entry ([.ref (ad 0), .int x1, .int x2, .int x3, .int x4]) (n := 9) (Nat.le_of_ble_eq_true rfl)
  rw [lg_entry_eq]
  generalize (lg_sl ([.ref (ad 0), .int x1, .int x2, .int x3, .int x4]) ++ List.replicate (9 - (lg_sl ([.ref (ad 0), .int x1, .int x2, .int x3, .int x4])).length) Slot.unset).toArray = ls at hl ⊢
  have hl : lv_has ls 9 [(0, .ref (ad 0)), (1, .int x1), (2, .int x2), (3, .int x3), (4, .int x4)] := hl
  refine lv_aload_n hx hb dX3_mix_0 rfl (lv_at hl 0 rfl) ?_
  refine lv_iload_n hx hb dX3_mix_1 rfl (lv_at hl 1 rfl) ?_
  exact vx_callv (vx_runV (As := [.int x1]) (rest := []) ⟨hx, hb, hml, hown, hts⟩ (thX3_functionAt l hlt D T N0 ad F V sr C x1 hbad) (cwV 1 hts gX3_mix_X3_functionAt rfl rfl rfl (by decide +kernel) ⟨Nat.le_of_ble_eq_true rfl, Nat.le_of_ble_eq_true rfl⟩) (preXV hK hKX rfl hw.o rfl hw) rfl rfl hl.1 rfl (lv_room (Nat.le_of_ble_eq_true rfl)) dX3_mix_2 ⟨Nat.le_of_ble_eq_true rfl, Nat.le_of_ble_eq_true rfl⟩) hS (fun q _ h9 => h9) (fun q h9 => h9) (fun q _ h9 => h9) (fun E ce q9 u t H1 locs1 ht hvm _ hE hz hk hS hce hcv hcl => by
    subst hE
    exact vx_out (fun z hz => absurd (hex z hz) (fun f => f)) hlocks hce hcv hcl (fun t ht _ => ⟨(), trivial, rfl, hS.F ht⟩) hS.2.2 (Nat.le_of_ble_eq_true rfl) (Nat.le_of_ble_eq_true rfl)) (fun u t H1 locs1 ht hvm hf => hf.elim)

set_option maxHeartbeats 4000000 in
set_option maxRecDepth 100000 in
theorem thX3_mix_2 (l : Launch) (hlt : l.stackTraces = false) (D : va_G) (T : Nat → ClassId) (N0 : Nat) (ad : Nat → Nat) (F V : Nat → Nat → Int32) (sr : SRs) (C : Nat → Int32) (k1 : Nat) (x2 x3 x4 : Int32) (h1 : k1 < 5) (hbad : x2 < 0 ∨ nI 5 ≤ x2) : vx_Met l yX3_mix wsX3_mix ({ frames := 7, cells := 1, slots := 6, locals := 104 }) (cX D T N0 [.ref (ad 0), .int (nI k1), .int x2, .int x3, .int x4] (fun H => PLW D T ad F V sr C H)) (va_Qv (fun (_ : Unit) => False) (fun _ _ => True) (fun q : Nat => N0 ≤ q)) (xQ IOB (fun q : Nat => N0 ≤ q)) 1 6 (fun q : Nat => N0 ≤ q) := by
  refine vx_ofW (cc := cX3_mix) (maxL := 9) (ret := (some .int)) (by decide) rfl ?_
  intro p e s m args below meth c s₁ B hml hex hv9
  obtain ⟨rfl, hK, hw, hKX⟩ := hv9
  have hx := B.exec
  have hb := B.bytes
  have hts := atoms_spec (ws := wsX3_mix) B.pre
  have hown : s.vm.findClass RX3 = some m.cls := findClass_of_methodNamed B.named
  have hlocks := B.notSynchronized
  have hS : va_S (fun q : Nat => N0 ≤ q) s.heap s.heap [] := va_S.rf
  have hl := lv_entry ([.ref (ad 0), .int (nI k1), .int x2, .int x3, .int x4]) (n := 9) (Nat.le_of_ble_eq_true rfl)
  rw [lg_entry_eq]
  generalize (lg_sl ([.ref (ad 0), .int (nI k1), .int x2, .int x3, .int x4]) ++ List.replicate (9 - (lg_sl ([.ref (ad 0), .int (nI k1), .int x2, .int x3, .int x4])).length) Slot.unset).toArray = ls at hl ⊢
  have hl : lv_has ls 9 [(0, .ref (ad 0)), (1, .int (nI k1)), (2, .int x2), (3, .int x3), (4, .int x4)] := hl
  refine lv_aload_n hx hb dX3_mix_0 rfl (lv_at hl 0 rfl) ?_
  refine lv_iload_n hx hb dX3_mix_1 rfl (lv_at hl 1 rfl) ?_
  refine va_csr (ad := fun k => .ref k) (va_runV (As := [.int (nI k1)]) (rest := []) ⟨hx, hb, hml, hown, hts⟩ (conX3_functionAt l D T ad F V sr C k1 (by omega)) (cwV 1 hts gX3_mix_X3_functionAt rfl rfl rfl (by decide +kernel) ⟨Nat.le_of_ble_eq_true rfl, Nat.le_of_ble_eq_true rfl⟩) (preV hK hw.o rfl hw) rfl rfl hl.1 rfl (lv_room (Nat.le_of_ble_eq_true rfl)) dX3_mix_2 ⟨Nat.le_of_ble_eq_true rfl, Nat.le_of_ble_eq_true rfl⟩).run (fun r1 hr1 => ?_)
  subst hr1
  refine lv_astore (lv' := [(5, .ref (ad (22 + k1))), (0, .ref (ad 0)), (1, .int (nI k1)), (2, .int x2), (3, .int x3), (4, .int x4)]) hx hb dX3_mix_5 hl (by decide) rfl (fun ls hl => ?_)
  refine lv_aload_n hx hb dX3_mix_7 rfl (lv_at hl 1 rfl) ?_
  refine lv_iload_n hx hb dX3_mix_8 rfl (lv_at hl 3 rfl) ?_
  exact vx_callv (vx_runV (As := [.int x2]) (rest := []) ⟨hx, hb, hml, hown, hts⟩ (thX3_functionAt l hlt D T N0 ad F V sr C x2 hbad) (cwV 1 hts gX3_mix_X3_functionAt rfl rfl rfl (by decide +kernel) ⟨Nat.le_of_ble_eq_true rfl, Nat.le_of_ble_eq_true rfl⟩) (preXV hK hKX rfl hw.o rfl hw) rfl rfl hl.1 rfl (lv_room (Nat.le_of_ble_eq_true rfl)) dX3_mix_9 ⟨Nat.le_of_ble_eq_true rfl, Nat.le_of_ble_eq_true rfl⟩) hS (fun q _ h9 => h9) (fun q h9 => h9) (fun q _ h9 => h9) (fun E ce q9 u t H1 locs1 ht hvm _ hE hz hk hS hce hcv hcl => by
    subst hE
    exact vx_out (fun z hz => absurd (hex z hz) (fun f => f)) hlocks hce hcv hcl (fun t ht _ => ⟨(), trivial, rfl, hS.F ht⟩) hS.2.2 (Nat.le_of_ble_eq_true rfl) (Nat.le_of_ble_eq_true rfl)) (fun u t H1 locs1 ht hvm hf => hf.elim)

set_option maxHeartbeats 4000000 in
set_option maxRecDepth 100000 in
theorem thX3_mix_3 (l : Launch) (hlt : l.stackTraces = false) (D : va_G) (T : Nat → ClassId) (N0 : Nat) (ad : Nat → Nat) (F V : Nat → Nat → Int32) (sr : SRs) (C : Nat → Int32) (k1 k2 : Nat) (x3 x4 : Int32) (h1 : k1 < 5) (h2 : k2 < 5) (hbad : x3 < 0 ∨ nI 5 ≤ x3) : vx_Met l yX3_mix wsX3_mix ({ frames := 7, cells := 1, slots := 6, locals := 104 }) (cX D T N0 [.ref (ad 0), .int (nI k1), .int (nI k2), .int x3, .int x4] (fun H => PLW D T ad F V sr C H)) (va_Qv (fun (_ : Unit) => False) (fun _ _ => True) (fun q : Nat => N0 ≤ q)) (xQ IOB (fun q : Nat => N0 ≤ q)) 1 6 (fun q : Nat => N0 ≤ q) := by
  refine vx_ofW (cc := cX3_mix) (maxL := 9) (ret := (some .int)) (by decide) rfl ?_
  intro p e s m args below meth c s₁ B hml hex hv9
  obtain ⟨rfl, hK, hw, hKX⟩ := hv9
  have hx := B.exec
  have hb := B.bytes
  have hts := atoms_spec (ws := wsX3_mix) B.pre
  have hown : s.vm.findClass RX3 = some m.cls := findClass_of_methodNamed B.named
  have hlocks := B.notSynchronized
  have hS : va_S (fun q : Nat => N0 ≤ q) s.heap s.heap [] := va_S.rf
  have hl := lv_entry ([.ref (ad 0), .int (nI k1), .int (nI k2), .int x3, .int x4]) (n := 9) (Nat.le_of_ble_eq_true rfl)
  rw [lg_entry_eq]
  generalize (lg_sl ([.ref (ad 0), .int (nI k1), .int (nI k2), .int x3, .int x4]) ++ List.replicate (9 - (lg_sl ([.ref (ad 0), .int (nI k1), .int (nI k2), .int x3, .int x4])).length) Slot.unset).toArray = ls at hl ⊢
  have hl : lv_has ls 9 [(0, .ref (ad 0)), (1, .int (nI k1)), (2, .int (nI k2)), (3, .int x3), (4, .int x4)] := hl
  refine lv_aload_n hx hb dX3_mix_0 rfl (lv_at hl 0 rfl) ?_
  refine lv_iload_n hx hb dX3_mix_1 rfl (lv_at hl 1 rfl) ?_
  refine va_csr (ad := fun k => .ref k) (va_runV (As := [.int (nI k1)]) (rest := []) ⟨hx, hb, hml, hown, hts⟩ (conX3_functionAt l D T ad F V sr C k1 (by omega)) (cwV 1 hts gX3_mix_X3_functionAt rfl rfl rfl (by decide +kernel) ⟨Nat.le_of_ble_eq_true rfl, Nat.le_of_ble_eq_true rfl⟩) (preV hK hw.o rfl hw) rfl rfl hl.1 rfl (lv_room (Nat.le_of_ble_eq_true rfl)) dX3_mix_2 ⟨Nat.le_of_ble_eq_true rfl, Nat.le_of_ble_eq_true rfl⟩).run (fun r1 hr1 => ?_)
  subst hr1
  refine lv_astore (lv' := [(5, .ref (ad (22 + k1))), (0, .ref (ad 0)), (1, .int (nI k1)), (2, .int (nI k2)), (3, .int x3), (4, .int x4)]) hx hb dX3_mix_5 hl (by decide) rfl (fun ls hl => ?_)
  refine lv_aload_n hx hb dX3_mix_7 rfl (lv_at hl 1 rfl) ?_
  refine lv_iload_n hx hb dX3_mix_8 rfl (lv_at hl 3 rfl) ?_
  refine va_csr (ad := fun k => .ref k) (va_runV (As := [.int (nI k2)]) (rest := []) ⟨hx, hb, hml, hown, hts⟩ (conX3_functionAt l D T ad F V sr C k2 (by omega)) (cwV 1 hts gX3_mix_X3_functionAt rfl rfl rfl (by decide +kernel) ⟨Nat.le_of_ble_eq_true rfl, Nat.le_of_ble_eq_true rfl⟩) (preV hK hw.o rfl hw) rfl rfl hl.1 rfl (lv_room (Nat.le_of_ble_eq_true rfl)) dX3_mix_9 ⟨Nat.le_of_ble_eq_true rfl, Nat.le_of_ble_eq_true rfl⟩).run (fun r2 hr2 => ?_)
  subst hr2
  refine lv_astore (lv' := [(6, .ref (ad (22 + k2))), (5, .ref (ad (22 + k1))), (0, .ref (ad 0)), (1, .int (nI k1)), (2, .int (nI k2)), (3, .int x3), (4, .int x4)]) hx hb dX3_mix_12 hl (by decide) rfl (fun ls hl => ?_)
  refine lv_aload_n hx hb dX3_mix_14 rfl (lv_at hl 2 rfl) ?_
  refine lv_iload_n hx hb dX3_mix_15 rfl (lv_at hl 5 rfl) ?_
  exact vx_callv (vx_runV (As := [.int x3]) (rest := []) ⟨hx, hb, hml, hown, hts⟩ (thX3_functionAt l hlt D T N0 ad F V sr C x3 hbad) (cwV 1 hts gX3_mix_X3_functionAt rfl rfl rfl (by decide +kernel) ⟨Nat.le_of_ble_eq_true rfl, Nat.le_of_ble_eq_true rfl⟩) (preXV hK hKX rfl hw.o rfl hw) rfl rfl hl.1 rfl (lv_room (Nat.le_of_ble_eq_true rfl)) dX3_mix_16 ⟨Nat.le_of_ble_eq_true rfl, Nat.le_of_ble_eq_true rfl⟩) hS (fun q _ h9 => h9) (fun q h9 => h9) (fun q _ h9 => h9) (fun E ce q9 u t H1 locs1 ht hvm _ hE hz hk hS hce hcv hcl => by
    subst hE
    exact vx_out (fun z hz => absurd (hex z hz) (fun f => f)) hlocks hce hcv hcl (fun t ht _ => ⟨(), trivial, rfl, hS.F ht⟩) hS.2.2 (Nat.le_of_ble_eq_true rfl) (Nat.le_of_ble_eq_true rfl)) (fun u t H1 locs1 ht hvm hf => hf.elim)

set_option maxHeartbeats 4000000 in
set_option maxRecDepth 100000 in
theorem thX3_mix_4 (l : Launch) (hlt : l.stackTraces = false) (D : va_G) (T : Nat → ClassId) (N0 : Nat) (ad : Nat → Nat) (F V : Nat → Nat → Int32) (sr : SRs) (C : Nat → Int32) (k1 k2 k3 : Nat) (x4 : Int32) (h1 : k1 < 5) (h2 : k2 < 5) (h3 : k3 < 5) (hbad : x4 < 0 ∨ ¬ x4 ≤ nI 4) : vx_Met l yX3_mix wsX3_mix ({ frames := 7, cells := 1, slots := 6, locals := 103 }) (cX D T N0 [.ref (ad 0), .int (nI k1), .int (nI k2), .int (nI k3), .int x4] (fun H => PLW D T ad F V sr C H)) (va_Qv (fun (_ : Unit) => False) (fun _ _ => True) (fun q : Nat => N0 ≤ q)) (xQ IAE (fun q : Nat => N0 ≤ q)) 1 6 (fun q : Nat => N0 ≤ q) := by
  refine vx_ofW (cc := cX3_mix) (maxL := 9) (ret := (some .int)) (by decide) rfl ?_
  intro p e s m args below meth c s₁ B hml hex hv9
  obtain ⟨rfl, hK, hw, hKX⟩ := hv9
  have hx := B.exec
  have hb := B.bytes
  have hts := atoms_spec (ws := wsX3_mix) B.pre
  have hown : s.vm.findClass RX3 = some m.cls := findClass_of_methodNamed B.named
  have hlocks := B.notSynchronized
  have hS : va_S (fun q : Nat => N0 ≤ q) s.heap s.heap [] := va_S.rf
  have hl := lv_entry ([.ref (ad 0), .int (nI k1), .int (nI k2), .int (nI k3), .int x4]) (n := 9) (Nat.le_of_ble_eq_true rfl)
  rw [lg_entry_eq]
  generalize (lg_sl ([.ref (ad 0), .int (nI k1), .int (nI k2), .int (nI k3), .int x4]) ++ List.replicate (9 - (lg_sl ([.ref (ad 0), .int (nI k1), .int (nI k2), .int (nI k3), .int x4])).length) Slot.unset).toArray = ls at hl ⊢
  have hl : lv_has ls 9 [(0, .ref (ad 0)), (1, .int (nI k1)), (2, .int (nI k2)), (3, .int (nI k3)), (4, .int x4)] := hl
  refine lv_aload_n hx hb dX3_mix_0 rfl (lv_at hl 0 rfl) ?_
  refine lv_iload_n hx hb dX3_mix_1 rfl (lv_at hl 1 rfl) ?_
  refine va_csr (ad := fun k => .ref k) (va_runV (As := [.int (nI k1)]) (rest := []) ⟨hx, hb, hml, hown, hts⟩ (conX3_functionAt l D T ad F V sr C k1 (by omega)) (cwV 1 hts gX3_mix_X3_functionAt rfl rfl rfl (by decide +kernel) ⟨Nat.le_of_ble_eq_true rfl, Nat.le_of_ble_eq_true rfl⟩) (preV hK hw.o rfl hw) rfl rfl hl.1 rfl (lv_room (Nat.le_of_ble_eq_true rfl)) dX3_mix_2 ⟨Nat.le_of_ble_eq_true rfl, Nat.le_of_ble_eq_true rfl⟩).run (fun r1 hr1 => ?_)
  subst hr1
  refine lv_astore (lv' := [(5, .ref (ad (22 + k1))), (0, .ref (ad 0)), (1, .int (nI k1)), (2, .int (nI k2)), (3, .int (nI k3)), (4, .int x4)]) hx hb dX3_mix_5 hl (by decide) rfl (fun ls hl => ?_)
  refine lv_aload_n hx hb dX3_mix_7 rfl (lv_at hl 1 rfl) ?_
  refine lv_iload_n hx hb dX3_mix_8 rfl (lv_at hl 3 rfl) ?_
  refine va_csr (ad := fun k => .ref k) (va_runV (As := [.int (nI k2)]) (rest := []) ⟨hx, hb, hml, hown, hts⟩ (conX3_functionAt l D T ad F V sr C k2 (by omega)) (cwV 1 hts gX3_mix_X3_functionAt rfl rfl rfl (by decide +kernel) ⟨Nat.le_of_ble_eq_true rfl, Nat.le_of_ble_eq_true rfl⟩) (preV hK hw.o rfl hw) rfl rfl hl.1 rfl (lv_room (Nat.le_of_ble_eq_true rfl)) dX3_mix_9 ⟨Nat.le_of_ble_eq_true rfl, Nat.le_of_ble_eq_true rfl⟩).run (fun r2 hr2 => ?_)
  subst hr2
  refine lv_astore (lv' := [(6, .ref (ad (22 + k2))), (5, .ref (ad (22 + k1))), (0, .ref (ad 0)), (1, .int (nI k1)), (2, .int (nI k2)), (3, .int (nI k3)), (4, .int x4)]) hx hb dX3_mix_12 hl (by decide) rfl (fun ls hl => ?_)
  refine lv_aload_n hx hb dX3_mix_14 rfl (lv_at hl 2 rfl) ?_
  refine lv_iload_n hx hb dX3_mix_15 rfl (lv_at hl 5 rfl) ?_
  refine va_csr (ad := fun k => .ref k) (va_runV (As := [.int (nI k3)]) (rest := []) ⟨hx, hb, hml, hown, hts⟩ (conX3_functionAt l D T ad F V sr C k3 (by omega)) (cwV 1 hts gX3_mix_X3_functionAt rfl rfl rfl (by decide +kernel) ⟨Nat.le_of_ble_eq_true rfl, Nat.le_of_ble_eq_true rfl⟩) (preV hK hw.o rfl hw) rfl rfl hl.1 rfl (lv_room (Nat.le_of_ble_eq_true rfl)) dX3_mix_16 ⟨Nat.le_of_ble_eq_true rfl, Nat.le_of_ble_eq_true rfl⟩).run (fun r3 hr3 => ?_)
  subst hr3
  refine lv_astore (lv' := [(7, .ref (ad (22 + k3))), (6, .ref (ad (22 + k2))), (5, .ref (ad (22 + k1))), (0, .ref (ad 0)), (1, .int (nI k1)), (2, .int (nI k2)), (3, .int (nI k3)), (4, .int x4)]) hx hb dX3_mix_19 hl (by decide) rfl (fun ls hl => ?_)
  refine lv_iload hx hb dX3_mix_21 (lv_at hl 7 rfl) ?_
  refine lv_iconst (v := nI 4) hx hb dX3_mix_23 (by decide) ?_
  exact vx_callv (vx_runS (As := [.int x4, .int (nI 4)]) (rest := []) ⟨hx, hb, hml, hown, hts⟩ (thX3_checkChoice l hlt D T N0 x4 (nI 4) hbad) (va_cwS 2 hts gX3_mix_X3_checkChoice rfl rfl rfl (by decide +kernel) ⟨Nat.le_of_ble_eq_true rfl, Nat.le_of_ble_eq_true rfl⟩) (preX hK hKX rfl trivial) rfl rfl hl.1 rfl (lv_room (Nat.le_of_ble_eq_true rfl)) dX3_mix_24 ⟨Nat.le_of_ble_eq_true rfl, Nat.le_of_ble_eq_true rfl⟩) hS (fun q _ h9 => h9) (fun q h9 => h9) (fun q _ h9 => h9) (fun E ce q9 u t H1 locs1 ht hvm _ hE hz hk hS hce hcv hcl => by
    subst hE
    exact vx_out (fun z hz => absurd (hex z hz) (fun f => f)) hlocks hce hcv hcl (fun t ht _ => ⟨(), trivial, rfl, hS.F ht⟩) hS.2.2 (Nat.le_of_ble_eq_true rfl) (Nat.le_of_ble_eq_true rfl)) (fun u t H1 locs1 ht hvm hf => hf.elim)

set_option maxHeartbeats 4000000 in
set_option maxRecDepth 100000 in
theorem thX3_turn_1 (l : Launch) (hlt : l.stackTraces = false) (D : va_G) (T : Nat → ClassId) (N0 : Nat) (ad : Nat → Nat) (F V : Nat → Nat → Int32) (sr : SRs) (C : Nat → Int32) (x1 x2 x3 : Int32) (hbad : x1 < 0 ∨ nI 5 ≤ x1) : vx_Met l yX3_turn wsX3_turn ({ frames := 7, cells := 1, slots := 6, locals := 104 }) (cX D T N0 [.ref (ad 0), .int x1, .int x2, .int x3] (fun H => PLW D T ad F V sr C H)) (va_Qv (fun (_ : Unit) => False) (fun _ _ => True) (fun q : Nat => N0 ≤ q)) (xQ IOB (fun q : Nat => N0 ≤ q)) 1 6 (fun q : Nat => N0 ≤ q) := by
  refine vx_ofW (cc := cX3_turn) (maxL := 5) (ret := (some .int)) (by decide) rfl ?_
  intro p e s m args below meth c s₁ B hml hex hv9
  obtain ⟨rfl, hK, hw, hKX⟩ := hv9
  have hx := B.exec
  have hb := B.bytes
  have hts := atoms_spec (ws := wsX3_turn) B.pre
  have hown : s.vm.findClass RX3 = some m.cls := findClass_of_methodNamed B.named
  have hlocks := B.notSynchronized
  have hS : va_S (fun q : Nat => N0 ≤ q) s.heap s.heap [] := va_S.rf
  have hl := lv_entry ([.ref (ad 0), .int x1, .int x2, .int x3]) (n := 5) (Nat.le_of_ble_eq_true rfl)
  rw [lg_entry_eq]
  generalize (lg_sl ([.ref (ad 0), .int x1, .int x2, .int x3]) ++ List.replicate (5 - (lg_sl ([.ref (ad 0), .int x1, .int x2, .int x3])).length) Slot.unset).toArray = ls at hl ⊢
  have hl : lv_has ls 5 [(0, .ref (ad 0)), (1, .int x1), (2, .int x2), (3, .int x3)] := hl
  refine lv_aload_n hx hb dX3_turn_0 rfl (lv_at hl 0 rfl) ?_
  refine lv_iload_n hx hb dX3_turn_1 rfl (lv_at hl 1 rfl) ?_
  exact vx_callv (vx_runV (As := [.int x1]) (rest := []) ⟨hx, hb, hml, hown, hts⟩ (thX3_functionAt l hlt D T N0 ad F V sr C x1 hbad) (cwV 1 hts gX3_turn_X3_functionAt rfl rfl rfl (by decide +kernel) ⟨Nat.le_of_ble_eq_true rfl, Nat.le_of_ble_eq_true rfl⟩) (preXV hK hKX rfl hw.o rfl hw) rfl rfl hl.1 rfl (lv_room (Nat.le_of_ble_eq_true rfl)) dX3_turn_2 ⟨Nat.le_of_ble_eq_true rfl, Nat.le_of_ble_eq_true rfl⟩) hS (fun q _ h9 => h9) (fun q h9 => h9) (fun q _ h9 => h9) (fun E ce q9 u t H1 locs1 ht hvm _ hE hz hk hS hce hcv hcl => by
    subst hE
    exact vx_out (fun z hz => absurd (hex z hz) (fun f => f)) hlocks hce hcv hcl (fun t ht _ => ⟨(), trivial, rfl, hS.F ht⟩) hS.2.2 (Nat.le_of_ble_eq_true rfl) (Nat.le_of_ble_eq_true rfl)) (fun u t H1 locs1 ht hvm hf => hf.elim)

set_option maxHeartbeats 4000000 in
set_option maxRecDepth 100000 in
theorem thX3_turn_2 (l : Launch) (hlt : l.stackTraces = false) (D : va_G) (T : Nat → ClassId) (N0 : Nat) (ad : Nat → Nat) (F V : Nat → Nat → Int32) (sr : SRs) (C : Nat → Int32) (k1 : Nat) (x2 x3 : Int32) (h1 : k1 < 5) (hbad : x2 < 0 ∨ ¬ x2 ≤ nI 6) : vx_Met l yX3_turn wsX3_turn ({ frames := 7, cells := 1, slots := 6, locals := 103 }) (cX D T N0 [.ref (ad 0), .int (nI k1), .int x2, .int x3] (fun H => PLW D T ad F V sr C H)) (va_Qv (fun (_ : Unit) => False) (fun _ _ => True) (fun q : Nat => N0 ≤ q)) (xQ IAE (fun q : Nat => N0 ≤ q)) 1 6 (fun q : Nat => N0 ≤ q) := by
  refine vx_ofW (cc := cX3_turn) (maxL := 5) (ret := (some .int)) (by decide) rfl ?_
  intro p e s m args below meth c s₁ B hml hex hv9
  obtain ⟨rfl, hK, hw, hKX⟩ := hv9
  have hx := B.exec
  have hb := B.bytes
  have hts := atoms_spec (ws := wsX3_turn) B.pre
  have hown : s.vm.findClass RX3 = some m.cls := findClass_of_methodNamed B.named
  have hlocks := B.notSynchronized
  have hS : va_S (fun q : Nat => N0 ≤ q) s.heap s.heap [] := va_S.rf
  have hl := lv_entry ([.ref (ad 0), .int (nI k1), .int x2, .int x3]) (n := 5) (Nat.le_of_ble_eq_true rfl)
  rw [lg_entry_eq]
  generalize (lg_sl ([.ref (ad 0), .int (nI k1), .int x2, .int x3]) ++ List.replicate (5 - (lg_sl ([.ref (ad 0), .int (nI k1), .int x2, .int x3])).length) Slot.unset).toArray = ls at hl ⊢
  have hl : lv_has ls 5 [(0, .ref (ad 0)), (1, .int (nI k1)), (2, .int x2), (3, .int x3)] := hl
  refine lv_aload_n hx hb dX3_turn_0 rfl (lv_at hl 0 rfl) ?_
  refine lv_iload_n hx hb dX3_turn_1 rfl (lv_at hl 1 rfl) ?_
  refine va_csr (ad := fun k => .ref k) (va_runV (As := [.int (nI k1)]) (rest := []) ⟨hx, hb, hml, hown, hts⟩ (conX3_functionAt l D T ad F V sr C k1 (by omega)) (cwV 1 hts gX3_turn_X3_functionAt rfl rfl rfl (by decide +kernel) ⟨Nat.le_of_ble_eq_true rfl, Nat.le_of_ble_eq_true rfl⟩) (preV hK hw.o rfl hw) rfl rfl hl.1 rfl (lv_room (Nat.le_of_ble_eq_true rfl)) dX3_turn_2 ⟨Nat.le_of_ble_eq_true rfl, Nat.le_of_ble_eq_true rfl⟩).run (fun r1 hr1 => ?_)
  subst hr1
  refine lv_astore (lv' := [(4, .ref (ad (22 + k1))), (0, .ref (ad 0)), (1, .int (nI k1)), (2, .int x2), (3, .int x3)]) hx hb dX3_turn_5 hl (by decide) rfl (fun ls hl => ?_)
  refine lv_iload_n hx hb dX3_turn_7 rfl (lv_at hl 3 rfl) ?_
  refine lv_bipush (v := nI 6) hx hb dX3_turn_8 (by decide) ?_
  exact vx_callv (vx_runS (As := [.int x2, .int (nI 6)]) (rest := []) ⟨hx, hb, hml, hown, hts⟩ (thX3_checkChoice l hlt D T N0 x2 (nI 6) hbad) (va_cwS 2 hts gX3_turn_X3_checkChoice rfl rfl rfl (by decide +kernel) ⟨Nat.le_of_ble_eq_true rfl, Nat.le_of_ble_eq_true rfl⟩) (preX hK hKX rfl trivial) rfl rfl hl.1 rfl (lv_room (Nat.le_of_ble_eq_true rfl)) dX3_turn_10 ⟨Nat.le_of_ble_eq_true rfl, Nat.le_of_ble_eq_true rfl⟩) hS (fun q _ h9 => h9) (fun q h9 => h9) (fun q _ h9 => h9) (fun E ce q9 u t H1 locs1 ht hvm _ hE hz hk hS hce hcv hcl => by
    subst hE
    exact vx_out (fun z hz => absurd (hex z hz) (fun f => f)) hlocks hce hcv hcl (fun t ht _ => ⟨(), trivial, rfl, hS.F ht⟩) hS.2.2 (Nat.le_of_ble_eq_true rfl) (Nat.le_of_ble_eq_true rfl)) (fun u t H1 locs1 ht hvm hf => hf.elim)

set_option maxHeartbeats 4000000 in
set_option maxRecDepth 100000 in
theorem thX3_thick_1 (l : Launch) (hlt : l.stackTraces = false) (D : va_G) (T : Nat → ClassId) (N0 : Nat) (ad : Nat → Nat) (F V : Nat → Nat → Int32) (sr : SRs) (C : Nat → Int32) (x1 x2 : Int32) (hbad : x1 < 0 ∨ nI 5 ≤ x1) : vx_Met l yX3_thick wsX3_thick ({ frames := 7, cells := 1, slots := 6, locals := 104 }) (cX D T N0 [.ref (ad 0), .int x1, .int x2] (fun H => PLW D T ad F V sr C H)) (va_Qv (fun (_ : Unit) => False) (fun _ _ => True) (fun q : Nat => N0 ≤ q)) (xQ IOB (fun q : Nat => N0 ≤ q)) 1 6 (fun q : Nat => N0 ≤ q) := by
  refine vx_ofW (cc := cX3_thick) (maxL := 5) (ret := (some .int)) (by decide) rfl ?_
  intro p e s m args below meth c s₁ B hml hex hv9
  obtain ⟨rfl, hK, hw, hKX⟩ := hv9
  have hx := B.exec
  have hb := B.bytes
  have hts := atoms_spec (ws := wsX3_thick) B.pre
  have hown : s.vm.findClass RX3 = some m.cls := findClass_of_methodNamed B.named
  have hlocks := B.notSynchronized
  have hS : va_S (fun q : Nat => N0 ≤ q) s.heap s.heap [] := va_S.rf
  have hl := lv_entry ([.ref (ad 0), .int x1, .int x2]) (n := 5) (Nat.le_of_ble_eq_true rfl)
  rw [lg_entry_eq]
  generalize (lg_sl ([.ref (ad 0), .int x1, .int x2]) ++ List.replicate (5 - (lg_sl ([.ref (ad 0), .int x1, .int x2])).length) Slot.unset).toArray = ls at hl ⊢
  have hl : lv_has ls 5 [(0, .ref (ad 0)), (1, .int x1), (2, .int x2)] := hl
  refine lv_aload_n hx hb dX3_thick_0 rfl (lv_at hl 0 rfl) ?_
  refine lv_iload_n hx hb dX3_thick_1 rfl (lv_at hl 1 rfl) ?_
  exact vx_callv (vx_runV (As := [.int x1]) (rest := []) ⟨hx, hb, hml, hown, hts⟩ (thX3_functionAt l hlt D T N0 ad F V sr C x1 hbad) (cwV 1 hts gX3_thick_X3_functionAt rfl rfl rfl (by decide +kernel) ⟨Nat.le_of_ble_eq_true rfl, Nat.le_of_ble_eq_true rfl⟩) (preXV hK hKX rfl hw.o rfl hw) rfl rfl hl.1 rfl (lv_room (Nat.le_of_ble_eq_true rfl)) dX3_thick_2 ⟨Nat.le_of_ble_eq_true rfl, Nat.le_of_ble_eq_true rfl⟩) hS (fun q _ h9 => h9) (fun q h9 => h9) (fun q _ h9 => h9) (fun E ce q9 u t H1 locs1 ht hvm _ hE hz hk hS hce hcv hcl => by
    subst hE
    exact vx_out (fun z hz => absurd (hex z hz) (fun f => f)) hlocks hce hcv hcl (fun t ht _ => ⟨(), trivial, rfl, hS.F ht⟩) hS.2.2 (Nat.le_of_ble_eq_true rfl) (Nat.le_of_ble_eq_true rfl)) (fun u t H1 locs1 ht hvm hf => hf.elim)

set_option maxHeartbeats 4000000 in
set_option maxRecDepth 100000 in
theorem thX3_thick_2 (l : Launch) (hlt : l.stackTraces = false) (D : va_G) (T : Nat → ClassId) (N0 : Nat) (ad : Nat → Nat) (F V : Nat → Nat → Int32) (sr : SRs) (C : Nat → Int32) (k1 : Nat) (x2 : Int32) (h1 : k1 < 5) (hbad : x2 < 0 ∨ ¬ x2 ≤ nI 255) : vx_Met l yX3_thick wsX3_thick ({ frames := 7, cells := 1, slots := 6, locals := 102 }) (cX D T N0 [.ref (ad 0), .int (nI k1), .int x2] (fun H => PLW D T ad F V sr C H)) (va_Qv (fun (_ : Unit) => False) (fun _ _ => True) (fun q : Nat => N0 ≤ q)) (xQ IAE (fun q : Nat => N0 ≤ q)) 1 6 (fun q : Nat => N0 ≤ q) := by
  refine vx_ofW (cc := cX3_thick) (maxL := 5) (ret := (some .int)) (by decide) rfl ?_
  intro p e s m args below meth c s₁ B hml hex hv9
  obtain ⟨rfl, hK, hw, hKX⟩ := hv9
  have hx := B.exec
  have hb := B.bytes
  have hts := atoms_spec (ws := wsX3_thick) B.pre
  have hown : s.vm.findClass RX3 = some m.cls := findClass_of_methodNamed B.named
  have hlocks := B.notSynchronized
  have hS : va_S (fun q : Nat => N0 ≤ q) s.heap s.heap [] := va_S.rf
  have hl := lv_entry ([.ref (ad 0), .int (nI k1), .int x2]) (n := 5) (Nat.le_of_ble_eq_true rfl)
  rw [lg_entry_eq]
  generalize (lg_sl ([.ref (ad 0), .int (nI k1), .int x2]) ++ List.replicate (5 - (lg_sl ([.ref (ad 0), .int (nI k1), .int x2])).length) Slot.unset).toArray = ls at hl ⊢
  have hl : lv_has ls 5 [(0, .ref (ad 0)), (1, .int (nI k1)), (2, .int x2)] := hl
  refine lv_aload_n hx hb dX3_thick_0 rfl (lv_at hl 0 rfl) ?_
  refine lv_iload_n hx hb dX3_thick_1 rfl (lv_at hl 1 rfl) ?_
  refine va_csr (ad := fun k => .ref k) (va_runV (As := [.int (nI k1)]) (rest := []) ⟨hx, hb, hml, hown, hts⟩ (conX3_functionAt l D T ad F V sr C k1 (by omega)) (cwV 1 hts gX3_thick_X3_functionAt rfl rfl rfl (by decide +kernel) ⟨Nat.le_of_ble_eq_true rfl, Nat.le_of_ble_eq_true rfl⟩) (preV hK hw.o rfl hw) rfl rfl hl.1 rfl (lv_room (Nat.le_of_ble_eq_true rfl)) dX3_thick_2 ⟨Nat.le_of_ble_eq_true rfl, Nat.le_of_ble_eq_true rfl⟩).run (fun r1 hr1 => ?_)
  subst hr1
  refine lv_astore_n (lv' := [(3, .ref (ad (22 + k1))), (0, .ref (ad 0)), (1, .int (nI k1)), (2, .int x2)]) hx hb dX3_thick_5 rfl hl (by decide) rfl (fun ls hl => ?_)
  refine lv_iload_n hx hb dX3_thick_6 rfl (lv_at hl 3 rfl) ?_
  exact vx_callv (vx_runS (As := [.int x2]) (rest := []) ⟨hx, hb, hml, hown, hts⟩ (thX3_checkFamily l hlt D T N0 x2 hbad) (va_cwS 1 hts gX3_thick_X3_checkFamily rfl rfl rfl (by decide +kernel) ⟨Nat.le_of_ble_eq_true rfl, Nat.le_of_ble_eq_true rfl⟩) (preX hK hKX rfl trivial) rfl rfl hl.1 rfl (lv_room (Nat.le_of_ble_eq_true rfl)) dX3_thick_7 ⟨Nat.le_of_ble_eq_true rfl, Nat.le_of_ble_eq_true rfl⟩) hS (fun q _ h9 => h9) (fun q h9 => h9) (fun q _ h9 => h9) (fun E ce q9 u t H1 locs1 ht hvm _ hE hz hk hS hce hcv hcl => by
    subst hE
    exact vx_out (fun z hz => absurd (hex z hz) (fun f => f)) hlocks hce hcv hcl (fun t ht _ => ⟨(), trivial, rfl, hS.F ht⟩) hS.2.2 (Nat.le_of_ble_eq_true rfl) (Nat.le_of_ble_eq_true rfl)) (fun u t H1 locs1 ht hvm hf => hf.elim)

set_option maxHeartbeats 4000000 in
set_option maxRecDepth 100000 in
theorem thX3_where_1 (l : Launch) (hlt : l.stackTraces = false) (D : va_G) (T : Nat → ClassId) (N0 : Nat) (ad : Nat → Nat) (F V : Nat → Nat → Int32) (sr : SRs) (C : Nat → Int32) (x1 x2 x3 x4 : Int32) (hbad : x1 < 0 ∨ nI 8 ≤ x1) : vx_Met l yX3_where wsX3_where ({ frames := 7, cells := 1, slots := 6, locals := 104 }) (cX D T N0 [.ref (ad 0), .int x1, .int x2, .int x3, .int x4] (fun H => PLW D T ad F V sr C H)) (va_Qv (fun (_ : Unit) => False) (fun _ _ => True) (fun q : Nat => N0 ≤ q)) (xQ IOB (fun q : Nat => N0 ≤ q)) 1 6 (fun q : Nat => N0 ≤ q) := by
  refine vx_ofW (cc := cX3_where) (maxL := 9) (ret := (some .int)) (by decide) rfl ?_
  intro p e s m args below meth c s₁ B hml hex hv9
  obtain ⟨rfl, hK, hw, hKX⟩ := hv9
  have hx := B.exec
  have hb := B.bytes
  have hts := atoms_spec (ws := wsX3_where) B.pre
  have hown : s.vm.findClass RX3 = some m.cls := findClass_of_methodNamed B.named
  have hlocks := B.notSynchronized
  have hS : va_S (fun q : Nat => N0 ≤ q) s.heap s.heap [] := va_S.rf
  have hl := lv_entry ([.ref (ad 0), .int x1, .int x2, .int x3, .int x4]) (n := 9) (Nat.le_of_ble_eq_true rfl)
  rw [lg_entry_eq]
  generalize (lg_sl ([.ref (ad 0), .int x1, .int x2, .int x3, .int x4]) ++ List.replicate (9 - (lg_sl ([.ref (ad 0), .int x1, .int x2, .int x3, .int x4])).length) Slot.unset).toArray = ls at hl ⊢
  have hl : lv_has ls 9 [(0, .ref (ad 0)), (1, .int x1), (2, .int x2), (3, .int x3), (4, .int x4)] := hl
  refine lv_aload_n hx hb dX3_where_0 rfl (lv_at hl 0 rfl) ?_
  refine lv_iload_n hx hb dX3_where_1 rfl (lv_at hl 1 rfl) ?_
  exact vx_callv (vx_runV (As := [.int x1]) (rest := []) ⟨hx, hb, hml, hown, hts⟩ (thX3_setAt l hlt D T N0 ad F V sr C x1 hbad) (cwV 1 hts gX3_where_X3_setAt rfl rfl rfl (by decide +kernel) ⟨Nat.le_of_ble_eq_true rfl, Nat.le_of_ble_eq_true rfl⟩) (preXV hK hKX rfl hw.o rfl hw) rfl rfl hl.1 rfl (lv_room (Nat.le_of_ble_eq_true rfl)) dX3_where_2 ⟨Nat.le_of_ble_eq_true rfl, Nat.le_of_ble_eq_true rfl⟩) hS (fun q _ h9 => h9) (fun q h9 => h9) (fun q _ h9 => h9) (fun E ce q9 u t H1 locs1 ht hvm _ hE hz hk hS hce hcv hcl => by
    subst hE
    exact vx_out (fun z hz => absurd (hex z hz) (fun f => f)) hlocks hce hcv hcl (fun t ht _ => ⟨(), trivial, rfl, hS.F ht⟩) hS.2.2 (Nat.le_of_ble_eq_true rfl) (Nat.le_of_ble_eq_true rfl)) (fun u t H1 locs1 ht hvm hf => hf.elim)

set_option maxHeartbeats 4000000 in
set_option maxRecDepth 100000 in
theorem thX3_where_2 (l : Launch) (hlt : l.stackTraces = false) (D : va_G) (T : Nat → ClassId) (N0 : Nat) (ad : Nat → Nat) (F V : Nat → Nat → Int32) (sr : SRs) (C : Nat → Int32) (k1 : Nat) (x2 x3 x4 : Int32) (h1 : k1 < 8) (hbad : x2 < 0 ∨ nI 5 ≤ x2) : vx_Met l yX3_where wsX3_where ({ frames := 7, cells := 1, slots := 6, locals := 104 }) (cX D T N0 [.ref (ad 0), .int (nI k1), .int x2, .int x3, .int x4] (fun H => PLW D T ad F V sr C H)) (va_Qv (fun (_ : Unit) => False) (fun _ _ => True) (fun q : Nat => N0 ≤ q)) (xQ IOB (fun q : Nat => N0 ≤ q)) 1 6 (fun q : Nat => N0 ≤ q) := by
  refine vx_ofW (cc := cX3_where) (maxL := 9) (ret := (some .int)) (by decide) rfl ?_
  intro p e s m args below meth c s₁ B hml hex hv9
  obtain ⟨rfl, hK, hw, hKX⟩ := hv9
  have hx := B.exec
  have hb := B.bytes
  have hts := atoms_spec (ws := wsX3_where) B.pre
  have hown : s.vm.findClass RX3 = some m.cls := findClass_of_methodNamed B.named
  have hlocks := B.notSynchronized
  have hS : va_S (fun q : Nat => N0 ≤ q) s.heap s.heap [] := va_S.rf
  have hl := lv_entry ([.ref (ad 0), .int (nI k1), .int x2, .int x3, .int x4]) (n := 9) (Nat.le_of_ble_eq_true rfl)
  rw [lg_entry_eq]
  generalize (lg_sl ([.ref (ad 0), .int (nI k1), .int x2, .int x3, .int x4]) ++ List.replicate (9 - (lg_sl ([.ref (ad 0), .int (nI k1), .int x2, .int x3, .int x4])).length) Slot.unset).toArray = ls at hl ⊢
  have hl : lv_has ls 9 [(0, .ref (ad 0)), (1, .int (nI k1)), (2, .int x2), (3, .int x3), (4, .int x4)] := hl
  refine lv_aload_n hx hb dX3_where_0 rfl (lv_at hl 0 rfl) ?_
  refine lv_iload_n hx hb dX3_where_1 rfl (lv_at hl 1 rfl) ?_
  refine va_csr (ad := fun k => .ref k) (va_runV (As := [.int (nI k1)]) (rest := []) ⟨hx, hb, hml, hown, hts⟩ (conX3_setAt l D T ad F V sr C k1 (by omega)) (cwV 1 hts gX3_where_X3_setAt rfl rfl rfl (by decide +kernel) ⟨Nat.le_of_ble_eq_true rfl, Nat.le_of_ble_eq_true rfl⟩) (preV hK hw.o rfl hw) rfl rfl hl.1 rfl (lv_room (Nat.le_of_ble_eq_true rfl)) dX3_where_2 ⟨Nat.le_of_ble_eq_true rfl, Nat.le_of_ble_eq_true rfl⟩).run (fun r1 hr1 => ?_)
  subst hr1
  refine lv_astore (lv' := [(5, .ref (ad (4 + k1))), (0, .ref (ad 0)), (1, .int (nI k1)), (2, .int x2), (3, .int x3), (4, .int x4)]) hx hb dX3_where_5 hl (by decide) rfl (fun ls hl => ?_)
  refine lv_aload_n hx hb dX3_where_7 rfl (lv_at hl 1 rfl) ?_
  refine lv_iload_n hx hb dX3_where_8 rfl (lv_at hl 3 rfl) ?_
  exact vx_callv (vx_runV (As := [.int x2]) (rest := []) ⟨hx, hb, hml, hown, hts⟩ (thX3_functionAt l hlt D T N0 ad F V sr C x2 hbad) (cwV 1 hts gX3_where_X3_functionAt rfl rfl rfl (by decide +kernel) ⟨Nat.le_of_ble_eq_true rfl, Nat.le_of_ble_eq_true rfl⟩) (preXV hK hKX rfl hw.o rfl hw) rfl rfl hl.1 rfl (lv_room (Nat.le_of_ble_eq_true rfl)) dX3_where_9 ⟨Nat.le_of_ble_eq_true rfl, Nat.le_of_ble_eq_true rfl⟩) hS (fun q _ h9 => h9) (fun q h9 => h9) (fun q _ h9 => h9) (fun E ce q9 u t H1 locs1 ht hvm _ hE hz hk hS hce hcv hcl => by
    subst hE
    exact vx_out (fun z hz => absurd (hex z hz) (fun f => f)) hlocks hce hcv hcl (fun t ht _ => ⟨(), trivial, rfl, hS.F ht⟩) hS.2.2 (Nat.le_of_ble_eq_true rfl) (Nat.le_of_ble_eq_true rfl)) (fun u t H1 locs1 ht hvm hf => hf.elim)

set_option maxHeartbeats 4000000 in
set_option maxRecDepth 100000 in
theorem thX3_ofFunction_1 (l : Launch) (hlt : l.stackTraces = false) (D : va_G) (T : Nat → ClassId) (N0 : Nat) (ad : Nat → Nat) (F V : Nat → Nat → Int32) (sr : SRs) (C : Nat → Int32) (x1 x2 : Int32) (hbad : x1 < 0 ∨ nI 5 ≤ x1) : vx_Met l yX3_ofFunction wsX3_ofFunction ({ frames := 7, cells := 1, slots := 6, locals := 104 }) (cX D T N0 [.ref (ad 0), .int x1, .int x2] (fun H => PLW D T ad F V sr C H)) (va_Qv (fun (_ : Unit) => False) (fun _ _ => True) (fun q : Nat => N0 ≤ q)) (xQ IOB (fun q : Nat => N0 ≤ q)) 1 6 (fun q : Nat => N0 ≤ q) := by
  refine vx_ofW (cc := cX3_ofFunction) (maxL := 4) (ret := (some .int)) (by decide) rfl ?_
  intro p e s m args below meth c s₁ B hml hex hv9
  obtain ⟨rfl, hK, hw, hKX⟩ := hv9
  have hx := B.exec
  have hb := B.bytes
  have hts := atoms_spec (ws := wsX3_ofFunction) B.pre
  have hown : s.vm.findClass RX3 = some m.cls := findClass_of_methodNamed B.named
  have hlocks := B.notSynchronized
  have hS : va_S (fun q : Nat => N0 ≤ q) s.heap s.heap [] := va_S.rf
  have hl := lv_entry ([.ref (ad 0), .int x1, .int x2]) (n := 4) (Nat.le_of_ble_eq_true rfl)
  rw [lg_entry_eq]
  generalize (lg_sl ([.ref (ad 0), .int x1, .int x2]) ++ List.replicate (4 - (lg_sl ([.ref (ad 0), .int x1, .int x2])).length) Slot.unset).toArray = ls at hl ⊢
  have hl : lv_has ls 4 [(0, .ref (ad 0)), (1, .int x1), (2, .int x2)] := hl
  refine lv_aload_n hx hb dX3_ofFunction_0 rfl (lv_at hl 0 rfl) ?_
  refine lv_iload_n hx hb dX3_ofFunction_1 rfl (lv_at hl 1 rfl) ?_
  exact vx_callv (vx_runV (As := [.int x1]) (rest := []) ⟨hx, hb, hml, hown, hts⟩ (thX3_functionAt l hlt D T N0 ad F V sr C x1 hbad) (cwV 1 hts gX3_ofFunction_X3_functionAt rfl rfl rfl (by decide +kernel) ⟨Nat.le_of_ble_eq_true rfl, Nat.le_of_ble_eq_true rfl⟩) (preXV hK hKX rfl hw.o rfl hw) rfl rfl hl.1 rfl (lv_room (Nat.le_of_ble_eq_true rfl)) dX3_ofFunction_2 ⟨Nat.le_of_ble_eq_true rfl, Nat.le_of_ble_eq_true rfl⟩) hS (fun q _ h9 => h9) (fun q h9 => h9) (fun q _ h9 => h9) (fun E ce q9 u t H1 locs1 ht hvm _ hE hz hk hS hce hcv hcl => by
    subst hE
    exact vx_out (fun z hz => absurd (hex z hz) (fun f => f)) hlocks hce hcv hcl (fun t ht _ => ⟨(), trivial, rfl, hS.F ht⟩) hS.2.2 (Nat.le_of_ble_eq_true rfl) (Nat.le_of_ble_eq_true rfl)) (fun u t H1 locs1 ht hvm hf => hf.elim)

set_option maxHeartbeats 4000000 in
set_option maxRecDepth 100000 in
theorem thX3_ofFunction_2 (l : Launch) (hlt : l.stackTraces = false) (D : va_G) (T : Nat → ClassId) (N0 : Nat) (ad : Nat → Nat) (F V : Nat → Nat → Int32) (sr : SRs) (C : Nat → Int32) (k1 : Nat) (x2 : Int32) (h1 : k1 < 5) (hbad : x2 < 0 ∨ ¬ x2 ≤ nI 4) : vx_Met l yX3_ofFunction wsX3_ofFunction ({ frames := 7, cells := 1, slots := 6, locals := 103 }) (cX D T N0 [.ref (ad 0), .int (nI k1), .int x2] (fun H => PLW D T ad F V sr C H)) (va_Qv (fun (_ : Unit) => False) (fun _ _ => True) (fun q : Nat => N0 ≤ q)) (xQ IAE (fun q : Nat => N0 ≤ q)) 1 6 (fun q : Nat => N0 ≤ q) := by
  refine vx_ofW (cc := cX3_ofFunction) (maxL := 4) (ret := (some .int)) (by decide) rfl ?_
  intro p e s m args below meth c s₁ B hml hex hv9
  obtain ⟨rfl, hK, hw, hKX⟩ := hv9
  have hx := B.exec
  have hb := B.bytes
  have hts := atoms_spec (ws := wsX3_ofFunction) B.pre
  have hown : s.vm.findClass RX3 = some m.cls := findClass_of_methodNamed B.named
  have hlocks := B.notSynchronized
  have hS : va_S (fun q : Nat => N0 ≤ q) s.heap s.heap [] := va_S.rf
  have hl := lv_entry ([.ref (ad 0), .int (nI k1), .int x2]) (n := 4) (Nat.le_of_ble_eq_true rfl)
  rw [lg_entry_eq]
  generalize (lg_sl ([.ref (ad 0), .int (nI k1), .int x2]) ++ List.replicate (4 - (lg_sl ([.ref (ad 0), .int (nI k1), .int x2])).length) Slot.unset).toArray = ls at hl ⊢
  have hl : lv_has ls 4 [(0, .ref (ad 0)), (1, .int (nI k1)), (2, .int x2)] := hl
  refine lv_aload_n hx hb dX3_ofFunction_0 rfl (lv_at hl 0 rfl) ?_
  refine lv_iload_n hx hb dX3_ofFunction_1 rfl (lv_at hl 1 rfl) ?_
  refine va_csr (ad := fun k => .ref k) (va_runV (As := [.int (nI k1)]) (rest := []) ⟨hx, hb, hml, hown, hts⟩ (conX3_functionAt l D T ad F V sr C k1 (by omega)) (cwV 1 hts gX3_ofFunction_X3_functionAt rfl rfl rfl (by decide +kernel) ⟨Nat.le_of_ble_eq_true rfl, Nat.le_of_ble_eq_true rfl⟩) (preV hK hw.o rfl hw) rfl rfl hl.1 rfl (lv_room (Nat.le_of_ble_eq_true rfl)) dX3_ofFunction_2 ⟨Nat.le_of_ble_eq_true rfl, Nat.le_of_ble_eq_true rfl⟩).run (fun r1 hr1 => ?_)
  subst hr1
  refine lv_astore_n (lv' := [(3, .ref (ad (22 + k1))), (0, .ref (ad 0)), (1, .int (nI k1)), (2, .int x2)]) hx hb dX3_ofFunction_5 rfl hl (by decide) rfl (fun ls hl => ?_)
  refine lv_iload_n hx hb dX3_ofFunction_6 rfl (lv_at hl 3 rfl) ?_
  refine lv_iconst (v := nI 4) hx hb dX3_ofFunction_7 (by decide) ?_
  exact vx_callv (vx_runS (As := [.int x2, .int (nI 4)]) (rest := []) ⟨hx, hb, hml, hown, hts⟩ (thX3_checkChoice l hlt D T N0 x2 (nI 4) hbad) (va_cwS 2 hts gX3_ofFunction_X3_checkChoice rfl rfl rfl (by decide +kernel) ⟨Nat.le_of_ble_eq_true rfl, Nat.le_of_ble_eq_true rfl⟩) (preX hK hKX rfl trivial) rfl rfl hl.1 rfl (lv_room (Nat.le_of_ble_eq_true rfl)) dX3_ofFunction_8 ⟨Nat.le_of_ble_eq_true rfl, Nat.le_of_ble_eq_true rfl⟩) hS (fun q _ h9 => h9) (fun q h9 => h9) (fun q _ h9 => h9) (fun E ce q9 u t H1 locs1 ht hvm _ hE hz hk hS hce hcv hcl => by
    subst hE
    exact vx_out (fun z hz => absurd (hex z hz) (fun f => f)) hlocks hce hcv hcl (fun t ht _ => ⟨(), trivial, rfl, hS.F ht⟩) hS.2.2 (Nat.le_of_ble_eq_true rfl) (Nat.le_of_ble_eq_true rfl)) (fun u t H1 locs1 ht hvm hf => hf.elim)

set_option maxHeartbeats 4000000 in
set_option maxRecDepth 100000 in
theorem thX3_value_1 (l : Launch) (hlt : l.stackTraces = false) (D : va_G) (T : Nat → ClassId) (N0 : Nat) (ad : Nat → Nat) (F V : Nat → Nat → Int32) (sr : SRs) (C : Nat → Int32) (x1 x2 : Int32) (hbad : x1 < 0 ∨ nI 5 ≤ x1) : vx_Met l yX3_value wsX3_value ({ frames := 7, cells := 1, slots := 6, locals := 104 }) (cX D T N0 [.ref (ad 0), .int x1, .int x2] (fun H => PLW D T ad F V sr C H)) (va_Qv (fun (_ : Unit) => False) (fun _ _ => True) (fun q : Nat => N0 ≤ q)) (xQ IOB (fun q : Nat => N0 ≤ q)) 1 6 (fun q : Nat => N0 ≤ q) := by
  refine vx_ofW (cc := cX3_value) (maxL := 4) (ret := (some .int)) (by decide) rfl ?_
  intro p e s m args below meth c s₁ B hml hex hv9
  obtain ⟨rfl, hK, hw, hKX⟩ := hv9
  have hx := B.exec
  have hb := B.bytes
  have hts := atoms_spec (ws := wsX3_value) B.pre
  have hown : s.vm.findClass RX3 = some m.cls := findClass_of_methodNamed B.named
  have hlocks := B.notSynchronized
  have hS : va_S (fun q : Nat => N0 ≤ q) s.heap s.heap [] := va_S.rf
  have hl := lv_entry ([.ref (ad 0), .int x1, .int x2]) (n := 4) (Nat.le_of_ble_eq_true rfl)
  rw [lg_entry_eq]
  generalize (lg_sl ([.ref (ad 0), .int x1, .int x2]) ++ List.replicate (4 - (lg_sl ([.ref (ad 0), .int x1, .int x2])).length) Slot.unset).toArray = ls at hl ⊢
  have hl : lv_has ls 4 [(0, .ref (ad 0)), (1, .int x1), (2, .int x2)] := hl
  refine lv_aload_n hx hb dX3_value_0 rfl (lv_at hl 0 rfl) ?_
  refine lv_iload_n hx hb dX3_value_1 rfl (lv_at hl 1 rfl) ?_
  exact vx_callv (vx_runV (As := [.int x1]) (rest := []) ⟨hx, hb, hml, hown, hts⟩ (thX3_functionAt l hlt D T N0 ad F V sr C x1 hbad) (cwV 1 hts gX3_value_X3_functionAt rfl rfl rfl (by decide +kernel) ⟨Nat.le_of_ble_eq_true rfl, Nat.le_of_ble_eq_true rfl⟩) (preXV hK hKX rfl hw.o rfl hw) rfl rfl hl.1 rfl (lv_room (Nat.le_of_ble_eq_true rfl)) dX3_value_2 ⟨Nat.le_of_ble_eq_true rfl, Nat.le_of_ble_eq_true rfl⟩) hS (fun q _ h9 => h9) (fun q h9 => h9) (fun q _ h9 => h9) (fun E ce q9 u t H1 locs1 ht hvm _ hE hz hk hS hce hcv hcl => by
    subst hE
    exact vx_out (fun z hz => absurd (hex z hz) (fun f => f)) hlocks hce hcv hcl (fun t ht _ => ⟨(), trivial, rfl, hS.F ht⟩) hS.2.2 (Nat.le_of_ble_eq_true rfl) (Nat.le_of_ble_eq_true rfl)) (fun u t H1 locs1 ht hvm hf => hf.elim)

set_option maxHeartbeats 4000000 in
set_option maxRecDepth 100000 in
theorem thX3_value_2 (l : Launch) (hlt : l.stackTraces = false) (D : va_G) (T : Nat → ClassId) (N0 : Nat) (ad : Nat → Nat) (F V : Nat → Nat → Int32) (sr : SRs) (C : Nat → Int32) (k1 : Nat) (x2 : Int32) (h1 : k1 < 5) (hbad : x2 < 0 ∨ ¬ x2 < nI 201) : vx_Met l yX3_value wsX3_value ({ frames := 7, cells := 1, slots := 6, locals := 102 }) (cX D T N0 [.ref (ad 0), .int (nI k1), .int x2] (fun H => PLW D T ad F V sr C H)) (va_Qv (fun (_ : Unit) => False) (fun _ _ => True) (fun q : Nat => N0 ≤ q)) (xQ IOB (fun q : Nat => N0 ≤ q)) 1 6 (fun q : Nat => N0 ≤ q) := by
  refine vx_ofW (cc := cX3_value) (maxL := 4) (ret := (some .int)) (by decide) rfl ?_
  intro p e s m args below meth c s₁ B hml hex hv9
  obtain ⟨rfl, hK, hw, hKX⟩ := hv9
  have hx := B.exec
  have hb := B.bytes
  have hts := atoms_spec (ws := wsX3_value) B.pre
  have hown : s.vm.findClass RX3 = some m.cls := findClass_of_methodNamed B.named
  have hlocks := B.notSynchronized
  have hS : va_S (fun q : Nat => N0 ≤ q) s.heap s.heap [] := va_S.rf
  have hl := lv_entry ([.ref (ad 0), .int (nI k1), .int x2]) (n := 4) (Nat.le_of_ble_eq_true rfl)
  rw [lg_entry_eq]
  generalize (lg_sl ([.ref (ad 0), .int (nI k1), .int x2]) ++ List.replicate (4 - (lg_sl ([.ref (ad 0), .int (nI k1), .int x2])).length) Slot.unset).toArray = ls at hl ⊢
  have hl : lv_has ls 4 [(0, .ref (ad 0)), (1, .int (nI k1)), (2, .int x2)] := hl
  refine lv_aload_n hx hb dX3_value_0 rfl (lv_at hl 0 rfl) ?_
  refine lv_iload_n hx hb dX3_value_1 rfl (lv_at hl 1 rfl) ?_
  refine va_csr (ad := fun k => .ref k) (va_runV (As := [.int (nI k1)]) (rest := []) ⟨hx, hb, hml, hown, hts⟩ (conX3_functionAt l D T ad F V sr C k1 (by omega)) (cwV 1 hts gX3_value_X3_functionAt rfl rfl rfl (by decide +kernel) ⟨Nat.le_of_ble_eq_true rfl, Nat.le_of_ble_eq_true rfl⟩) (preV hK hw.o rfl hw) rfl rfl hl.1 rfl (lv_room (Nat.le_of_ble_eq_true rfl)) dX3_value_2 ⟨Nat.le_of_ble_eq_true rfl, Nat.le_of_ble_eq_true rfl⟩).run (fun r1 hr1 => ?_)
  subst hr1
  refine lv_astore_n (lv' := [(3, .ref (ad (22 + k1))), (0, .ref (ad 0)), (1, .int (nI k1)), (2, .int x2)]) hx hb dX3_value_5 rfl hl (by decide) rfl (fun ls hl => ?_)
  refine lv_iload_n hx hb dX3_value_6 rfl (lv_at hl 3 rfl) ?_
  exact vx_callv (vx_runS (As := [.int x2]) (rest := []) ⟨hx, hb, hml, hown, hts⟩ (thX3_checkGrain l hlt D T N0 x2 hbad) (va_cwS 1 hts gX3_value_X3_checkGrain rfl rfl rfl (by decide +kernel) ⟨Nat.le_of_ble_eq_true rfl, Nat.le_of_ble_eq_true rfl⟩) (preX hK hKX rfl trivial) rfl rfl hl.1 rfl (lv_room (Nat.le_of_ble_eq_true rfl)) dX3_value_7 ⟨Nat.le_of_ble_eq_true rfl, Nat.le_of_ble_eq_true rfl⟩) hS (fun q _ h9 => h9) (fun q h9 => h9) (fun q _ h9 => h9) (fun E ce q9 u t H1 locs1 ht hvm _ hE hz hk hS hce hcv hcl => by
    subst hE
    exact vx_out (fun z hz => absurd (hex z hz) (fun f => f)) hlocks hce hcv hcl (fun t ht _ => ⟨(), trivial, rfl, hS.F ht⟩) hS.2.2 (Nat.le_of_ble_eq_true rfl) (Nat.le_of_ble_eq_true rfl)) (fun u t H1 locs1 ht hvm hf => hf.elim)

set_option maxHeartbeats 4000000 in
set_option maxRecDepth 100000 in
theorem thX3_area_1 (l : Launch) (hlt : l.stackTraces = false) (D : va_G) (T : Nat → ClassId) (N0 : Nat) (ad : Nat → Nat) (F V : Nat → Nat → Int32) (sr : SRs) (C : Nat → Int32) (x1 x2 : Int32) (hbad : x1 < 0 ∨ nI 5 ≤ x1) : vx_Met l yX3_area wsX3_area ({ frames := 7, cells := 1, slots := 6, locals := 104 }) (cX D T N0 [.ref (ad 0), .int x1, .int x2] (fun H => PLW D T ad F V sr C H)) (va_Qv (fun (_ : Unit) => False) (fun _ _ => True) (fun q : Nat => N0 ≤ q)) (xQ IOB (fun q : Nat => N0 ≤ q)) 1 6 (fun q : Nat => N0 ≤ q) := by
  refine vx_ofW (cc := cX3_area) (maxL := 4) (ret := (some .int)) (by decide) rfl ?_
  intro p e s m args below meth c s₁ B hml hex hv9
  obtain ⟨rfl, hK, hw, hKX⟩ := hv9
  have hx := B.exec
  have hb := B.bytes
  have hts := atoms_spec (ws := wsX3_area) B.pre
  have hown : s.vm.findClass RX3 = some m.cls := findClass_of_methodNamed B.named
  have hlocks := B.notSynchronized
  have hS : va_S (fun q : Nat => N0 ≤ q) s.heap s.heap [] := va_S.rf
  have hl := lv_entry ([.ref (ad 0), .int x1, .int x2]) (n := 4) (Nat.le_of_ble_eq_true rfl)
  rw [lg_entry_eq]
  generalize (lg_sl ([.ref (ad 0), .int x1, .int x2]) ++ List.replicate (4 - (lg_sl ([.ref (ad 0), .int x1, .int x2])).length) Slot.unset).toArray = ls at hl ⊢
  have hl : lv_has ls 4 [(0, .ref (ad 0)), (1, .int x1), (2, .int x2)] := hl
  refine lv_aload_n hx hb dX3_area_0 rfl (lv_at hl 0 rfl) ?_
  refine lv_iload_n hx hb dX3_area_1 rfl (lv_at hl 1 rfl) ?_
  exact vx_callv (vx_runV (As := [.int x1]) (rest := []) ⟨hx, hb, hml, hown, hts⟩ (thX3_functionAt l hlt D T N0 ad F V sr C x1 hbad) (cwV 1 hts gX3_area_X3_functionAt rfl rfl rfl (by decide +kernel) ⟨Nat.le_of_ble_eq_true rfl, Nat.le_of_ble_eq_true rfl⟩) (preXV hK hKX rfl hw.o rfl hw) rfl rfl hl.1 rfl (lv_room (Nat.le_of_ble_eq_true rfl)) dX3_area_2 ⟨Nat.le_of_ble_eq_true rfl, Nat.le_of_ble_eq_true rfl⟩) hS (fun q _ h9 => h9) (fun q h9 => h9) (fun q _ h9 => h9) (fun E ce q9 u t H1 locs1 ht hvm _ hE hz hk hS hce hcv hcl => by
    subst hE
    exact vx_out (fun z hz => absurd (hex z hz) (fun f => f)) hlocks hce hcv hcl (fun t ht _ => ⟨(), trivial, rfl, hS.F ht⟩) hS.2.2 (Nat.le_of_ble_eq_true rfl) (Nat.le_of_ble_eq_true rfl)) (fun u t H1 locs1 ht hvm hf => hf.elim)

set_option maxHeartbeats 4000000 in
set_option maxRecDepth 100000 in
theorem thX3_area_2 (l : Launch) (hlt : l.stackTraces = false) (D : va_G) (T : Nat → ClassId) (N0 : Nat) (ad : Nat → Nat) (F V : Nat → Nat → Int32) (sr : SRs) (C : Nat → Int32) (k1 : Nat) (x2 : Int32) (h1 : k1 < 5) (hbad : x2 < 0 ∨ nI 8 ≤ x2) : vx_Met l yX3_area wsX3_area ({ frames := 7, cells := 1, slots := 6, locals := 104 }) (cX D T N0 [.ref (ad 0), .int (nI k1), .int x2] (fun H => PLW D T ad F V sr C H)) (va_Qv (fun (_ : Unit) => False) (fun _ _ => True) (fun q : Nat => N0 ≤ q)) (xQ IOB (fun q : Nat => N0 ≤ q)) 1 6 (fun q : Nat => N0 ≤ q) := by
  refine vx_ofW (cc := cX3_area) (maxL := 4) (ret := (some .int)) (by decide) rfl ?_
  intro p e s m args below meth c s₁ B hml hex hv9
  obtain ⟨rfl, hK, hw, hKX⟩ := hv9
  have hx := B.exec
  have hb := B.bytes
  have hts := atoms_spec (ws := wsX3_area) B.pre
  have hown : s.vm.findClass RX3 = some m.cls := findClass_of_methodNamed B.named
  have hlocks := B.notSynchronized
  have hS : va_S (fun q : Nat => N0 ≤ q) s.heap s.heap [] := va_S.rf
  have hl := lv_entry ([.ref (ad 0), .int (nI k1), .int x2]) (n := 4) (Nat.le_of_ble_eq_true rfl)
  rw [lg_entry_eq]
  generalize (lg_sl ([.ref (ad 0), .int (nI k1), .int x2]) ++ List.replicate (4 - (lg_sl ([.ref (ad 0), .int (nI k1), .int x2])).length) Slot.unset).toArray = ls at hl ⊢
  have hl : lv_has ls 4 [(0, .ref (ad 0)), (1, .int (nI k1)), (2, .int x2)] := hl
  refine lv_aload_n hx hb dX3_area_0 rfl (lv_at hl 0 rfl) ?_
  refine lv_iload_n hx hb dX3_area_1 rfl (lv_at hl 1 rfl) ?_
  refine va_csr (ad := fun k => .ref k) (va_runV (As := [.int (nI k1)]) (rest := []) ⟨hx, hb, hml, hown, hts⟩ (conX3_functionAt l D T ad F V sr C k1 (by omega)) (cwV 1 hts gX3_area_X3_functionAt rfl rfl rfl (by decide +kernel) ⟨Nat.le_of_ble_eq_true rfl, Nat.le_of_ble_eq_true rfl⟩) (preV hK hw.o rfl hw) rfl rfl hl.1 rfl (lv_room (Nat.le_of_ble_eq_true rfl)) dX3_area_2 ⟨Nat.le_of_ble_eq_true rfl, Nat.le_of_ble_eq_true rfl⟩).run (fun r1 hr1 => ?_)
  subst hr1
  refine lv_astore_n (lv' := [(3, .ref (ad (22 + k1))), (0, .ref (ad 0)), (1, .int (nI k1)), (2, .int x2)]) hx hb dX3_area_5 rfl hl (by decide) rfl (fun ls hl => ?_)
  refine lv_aload_n hx hb dX3_area_6 rfl (lv_at hl 0 rfl) ?_
  refine lv_aload_n hx hb dX3_area_7 rfl (lv_at hl 1 rfl) ?_
  refine lv_iload_n hx hb dX3_area_8 rfl (lv_at hl 3 rfl) ?_
  exact vx_callv (vx_runV (As := [.int x2]) (rest := [.ref (ad (22 + k1))]) ⟨hx, hb, hml, hown, hts⟩ (thX3_setAt l hlt D T N0 ad F V sr C x2 hbad) (cwV 1 hts gX3_area_X3_setAt rfl rfl rfl (by decide +kernel) ⟨Nat.le_of_ble_eq_true rfl, Nat.le_of_ble_eq_true rfl⟩) (preXV hK hKX rfl hw.o rfl hw) rfl rfl hl.1 rfl (lv_room (Nat.le_of_ble_eq_true rfl)) dX3_area_9 ⟨Nat.le_of_ble_eq_true rfl, Nat.le_of_ble_eq_true rfl⟩) hS (fun q _ h9 => h9) (fun q h9 => h9) (fun q _ h9 => h9) (fun E ce q9 u t H1 locs1 ht hvm _ hE hz hk hS hce hcv hcl => by
    subst hE
    exact vx_out (fun z hz => absurd (hex z hz) (fun f => f)) hlocks hce hcv hcl (fun t ht _ => ⟨(), trivial, rfl, hS.F ht⟩) hS.2.2 (Nat.le_of_ble_eq_true rfl) (Nat.le_of_ble_eq_true rfl)) (fun u t H1 locs1 ht hvm hf => hf.elim)

set_option maxHeartbeats 4000000 in
set_option maxRecDepth 100000 in
theorem thX3_mean_1 (l : Launch) (hlt : l.stackTraces = false) (D : va_G) (T : Nat → ClassId) (N0 : Nat) (ad : Nat → Nat) (F V : Nat → Nat → Int32) (sr : SRs) (C : Nat → Int32) (x1 x2 : Int32) (hbad : x1 < 0 ∨ nI 5 ≤ x1) : vx_Met l yX3_mean wsX3_mean ({ frames := 7, cells := 1, slots := 6, locals := 104 }) (cX D T N0 [.ref (ad 0), .int x1, .int x2] (fun H => PLW D T ad F V sr C H)) (va_Qv (fun (_ : Unit) => False) (fun _ _ => True) (fun q : Nat => N0 ≤ q)) (xQ IOB (fun q : Nat => N0 ≤ q)) 1 6 (fun q : Nat => N0 ≤ q) := by
  refine vx_ofW (cc := cX3_mean) (maxL := 6) (ret := (some .double)) (by decide) rfl ?_
  intro p e s m args below meth c s₁ B hml hex hv9
  obtain ⟨rfl, hK, hw, hKX⟩ := hv9
  have hx := B.exec
  have hb := B.bytes
  have hts := atoms_spec (ws := wsX3_mean) B.pre
  have hown : s.vm.findClass RX3 = some m.cls := findClass_of_methodNamed B.named
  have hlocks := B.notSynchronized
  have hS : va_S (fun q : Nat => N0 ≤ q) s.heap s.heap [] := va_S.rf
  have hl := lv_entry ([.ref (ad 0), .int x1, .int x2]) (n := 6) (Nat.le_of_ble_eq_true rfl)
  rw [lg_entry_eq]
  generalize (lg_sl ([.ref (ad 0), .int x1, .int x2]) ++ List.replicate (6 - (lg_sl ([.ref (ad 0), .int x1, .int x2])).length) Slot.unset).toArray = ls at hl ⊢
  have hl : lv_has ls 6 [(0, .ref (ad 0)), (1, .int x1), (2, .int x2)] := hl
  refine lv_aload_n hx hb dX3_mean_0 rfl (lv_at hl 0 rfl) ?_
  refine lv_iload_n hx hb dX3_mean_1 rfl (lv_at hl 1 rfl) ?_
  exact vx_callv (vx_runV (As := [.int x1]) (rest := []) ⟨hx, hb, hml, hown, hts⟩ (thX3_functionAt l hlt D T N0 ad F V sr C x1 hbad) (cwV 1 hts gX3_mean_X3_functionAt rfl rfl rfl (by decide +kernel) ⟨Nat.le_of_ble_eq_true rfl, Nat.le_of_ble_eq_true rfl⟩) (preXV hK hKX rfl hw.o rfl hw) rfl rfl hl.1 rfl (lv_room (Nat.le_of_ble_eq_true rfl)) dX3_mean_2 ⟨Nat.le_of_ble_eq_true rfl, Nat.le_of_ble_eq_true rfl⟩) hS (fun q _ h9 => h9) (fun q h9 => h9) (fun q _ h9 => h9) (fun E ce q9 u t H1 locs1 ht hvm _ hE hz hk hS hce hcv hcl => by
    subst hE
    exact vx_out (fun z hz => absurd (hex z hz) (fun f => f)) hlocks hce hcv hcl (fun t ht _ => ⟨(), trivial, rfl, hS.F ht⟩) hS.2.2 (Nat.le_of_ble_eq_true rfl) (Nat.le_of_ble_eq_true rfl)) (fun u t H1 locs1 ht hvm hf => hf.elim)

set_option maxHeartbeats 4000000 in
set_option maxRecDepth 100000 in
theorem thX3_mean_2 (l : Launch) (hlt : l.stackTraces = false) (D : va_G) (T : Nat → ClassId) (N0 : Nat) (ad : Nat → Nat) (F V : Nat → Nat → Int32) (sr : SRs) (C : Nat → Int32) (k1 : Nat) (x2 : Int32) (h1 : k1 < 5) (hbad : x2 < 0 ∨ nI 8 ≤ x2) : vx_Met l yX3_mean wsX3_mean ({ frames := 7, cells := 1, slots := 6, locals := 104 }) (cX D T N0 [.ref (ad 0), .int (nI k1), .int x2] (fun H => PLW D T ad F V sr C H)) (va_Qv (fun (_ : Unit) => False) (fun _ _ => True) (fun q : Nat => N0 ≤ q)) (xQ IOB (fun q : Nat => N0 ≤ q)) 1 6 (fun q : Nat => N0 ≤ q) := by
  refine vx_ofW (cc := cX3_mean) (maxL := 6) (ret := (some .double)) (by decide) rfl ?_
  intro p e s m args below meth c s₁ B hml hex hv9
  obtain ⟨rfl, hK, hw, hKX⟩ := hv9
  have hx := B.exec
  have hb := B.bytes
  have hts := atoms_spec (ws := wsX3_mean) B.pre
  have hown : s.vm.findClass RX3 = some m.cls := findClass_of_methodNamed B.named
  have hlocks := B.notSynchronized
  have hS : va_S (fun q : Nat => N0 ≤ q) s.heap s.heap [] := va_S.rf
  have hl := lv_entry ([.ref (ad 0), .int (nI k1), .int x2]) (n := 6) (Nat.le_of_ble_eq_true rfl)
  rw [lg_entry_eq]
  generalize (lg_sl ([.ref (ad 0), .int (nI k1), .int x2]) ++ List.replicate (6 - (lg_sl ([.ref (ad 0), .int (nI k1), .int x2])).length) Slot.unset).toArray = ls at hl ⊢
  have hl : lv_has ls 6 [(0, .ref (ad 0)), (1, .int (nI k1)), (2, .int x2)] := hl
  refine lv_aload_n hx hb dX3_mean_0 rfl (lv_at hl 0 rfl) ?_
  refine lv_iload_n hx hb dX3_mean_1 rfl (lv_at hl 1 rfl) ?_
  refine va_csr (ad := fun k => .ref k) (va_runV (As := [.int (nI k1)]) (rest := []) ⟨hx, hb, hml, hown, hts⟩ (conX3_functionAt l D T ad F V sr C k1 (by omega)) (cwV 1 hts gX3_mean_X3_functionAt rfl rfl rfl (by decide +kernel) ⟨Nat.le_of_ble_eq_true rfl, Nat.le_of_ble_eq_true rfl⟩) (preV hK hw.o rfl hw) rfl rfl hl.1 rfl (lv_room (Nat.le_of_ble_eq_true rfl)) dX3_mean_2 ⟨Nat.le_of_ble_eq_true rfl, Nat.le_of_ble_eq_true rfl⟩).run (fun r1 hr1 => ?_)
  subst hr1
  refine lv_astore_n (lv' := [(3, .ref (ad (22 + k1))), (0, .ref (ad 0)), (1, .int (nI k1)), (2, .int x2)]) hx hb dX3_mean_5 rfl hl (by decide) rfl (fun ls hl => ?_)
  refine lv_aload_n hx hb dX3_mean_6 rfl (lv_at hl 1 rfl) ?_
  refine lv_iload_n hx hb dX3_mean_7 rfl (lv_at hl 3 rfl) ?_
  exact vx_callv (vx_runV (As := [.int x2]) (rest := []) ⟨hx, hb, hml, hown, hts⟩ (thX3_setAt l hlt D T N0 ad F V sr C x2 hbad) (cwV 1 hts gX3_mean_X3_setAt rfl rfl rfl (by decide +kernel) ⟨Nat.le_of_ble_eq_true rfl, Nat.le_of_ble_eq_true rfl⟩) (preXV hK hKX rfl hw.o rfl hw) rfl rfl hl.1 rfl (lv_room (Nat.le_of_ble_eq_true rfl)) dX3_mean_8 ⟨Nat.le_of_ble_eq_true rfl, Nat.le_of_ble_eq_true rfl⟩) hS (fun q _ h9 => h9) (fun q h9 => h9) (fun q _ h9 => h9) (fun E ce q9 u t H1 locs1 ht hvm _ hE hz hk hS hce hcv hcl => by
    subst hE
    exact vx_out (fun z hz => absurd (hex z hz) (fun f => f)) hlocks hce hcv hcl (fun t ht _ => ⟨(), trivial, rfl, hS.F ht⟩) hS.2.2 (Nat.le_of_ble_eq_true rfl) (Nat.le_of_ble_eq_true rfl)) (fun u t H1 locs1 ht hvm hf => hf.elim)

set_option maxHeartbeats 4000000 in
set_option maxRecDepth 100000 in
theorem thX3_thicker_1 (l : Launch) (hlt : l.stackTraces = false) (D : va_G) (T : Nat → ClassId) (N0 : Nat) (ad : Nat → Nat) (F V : Nat → Nat → Int32) (sr : SRs) (C : Nat → Int32) (x1 x2 : Int32) (hbad : x1 < 0 ∨ ¬ x1 ≤ nI 255) : vx_Met l yX3_thicker wsX3_thicker ({ frames := 7, cells := 1, slots := 6, locals := 102 }) (cX D T N0 [.ref (ad 0), .int x1, .int x2] (fun H => PLW D T ad F V sr C H)) (va_Qv (fun (_ : Unit) => False) (fun _ _ => True) (fun q : Nat => N0 ≤ q)) (xQ IAE (fun q : Nat => N0 ≤ q)) 1 6 (fun q : Nat => N0 ≤ q) := by
  refine vx_ofW (cc := cX3_thicker) (maxL := 3) (ret := (some .int)) (by decide) rfl ?_
  intro p e s m args below meth c s₁ B hml hex hv9
  obtain ⟨rfl, hK, hw, hKX⟩ := hv9
  have hx := B.exec
  have hb := B.bytes
  have hts := atoms_spec (ws := wsX3_thicker) B.pre
  have hown : s.vm.findClass RX3 = some m.cls := findClass_of_methodNamed B.named
  have hlocks := B.notSynchronized
  have hS : va_S (fun q : Nat => N0 ≤ q) s.heap s.heap [] := va_S.rf
  have hl := lv_entry ([.ref (ad 0), .int x1, .int x2]) (n := 3) (Nat.le_of_ble_eq_true rfl)
  rw [lg_entry_eq]
  generalize (lg_sl ([.ref (ad 0), .int x1, .int x2]) ++ List.replicate (3 - (lg_sl ([.ref (ad 0), .int x1, .int x2])).length) Slot.unset).toArray = ls at hl ⊢
  have hl : lv_has ls 3 [(0, .ref (ad 0)), (1, .int x1), (2, .int x2)] := hl
  refine lv_iload_n hx hb dX3_thicker_0 rfl (lv_at hl 1 rfl) ?_
  exact vx_callv (vx_runS (As := [.int x1]) (rest := []) ⟨hx, hb, hml, hown, hts⟩ (thX3_checkFamily l hlt D T N0 x1 hbad) (va_cwS 1 hts gX3_thicker_X3_checkFamily rfl rfl rfl (by decide +kernel) ⟨Nat.le_of_ble_eq_true rfl, Nat.le_of_ble_eq_true rfl⟩) (preX hK hKX rfl trivial) rfl rfl hl.1 rfl (lv_room (Nat.le_of_ble_eq_true rfl)) dX3_thicker_1 ⟨Nat.le_of_ble_eq_true rfl, Nat.le_of_ble_eq_true rfl⟩) hS (fun q _ h9 => h9) (fun q h9 => h9) (fun q _ h9 => h9) (fun E ce q9 u t H1 locs1 ht hvm _ hE hz hk hS hce hcv hcl => by
    subst hE
    exact vx_out (fun z hz => absurd (hex z hz) (fun f => f)) hlocks hce hcv hcl (fun t ht _ => ⟨(), trivial, rfl, hS.F ht⟩) hS.2.2 (Nat.le_of_ble_eq_true rfl) (Nat.le_of_ble_eq_true rfl)) (fun u t H1 locs1 ht hvm hf => hf.elim)

set_option maxHeartbeats 4000000 in
set_option maxRecDepth 100000 in
theorem thX3_cover_1 (l : Launch) (hlt : l.stackTraces = false) (D : va_G) (T : Nat → ClassId) (N0 : Nat) (ad : Nat → Nat) (F V : Nat → Nat → Int32) (sr : SRs) (C : Nat → Int32) (x1 x2 : Int32) (hbad : x2 < 0 ∨ nI 8 ≤ x2) : vx_Met l yX3_cover wsX3_cover ({ frames := 7, cells := 1, slots := 6, locals := 104 }) (cX D T N0 [.ref (ad 0), .int x1, .int x2] (fun H => PLW D T ad F V sr C H)) (va_Qv (fun (_ : Unit) => False) (fun _ _ => True) (fun q : Nat => N0 ≤ q)) (xQ IOB (fun q : Nat => N0 ≤ q)) 1 6 (fun q : Nat => N0 ≤ q) := by
  refine vx_ofW (cc := cX3_cover) (maxL := 4) (ret := (some .int)) (by decide) rfl ?_
  intro p e s m args below meth c s₁ B hml hex hv9
  obtain ⟨rfl, hK, hw, hKX⟩ := hv9
  have hx := B.exec
  have hb := B.bytes
  have hts := atoms_spec (ws := wsX3_cover) B.pre
  have hown : s.vm.findClass RX3 = some m.cls := findClass_of_methodNamed B.named
  have hlocks := B.notSynchronized
  have hS : va_S (fun q : Nat => N0 ≤ q) s.heap s.heap [] := va_S.rf
  have hl := lv_entry ([.ref (ad 0), .int x1, .int x2]) (n := 4) (Nat.le_of_ble_eq_true rfl)
  rw [lg_entry_eq]
  generalize (lg_sl ([.ref (ad 0), .int x1, .int x2]) ++ List.replicate (4 - (lg_sl ([.ref (ad 0), .int x1, .int x2])).length) Slot.unset).toArray = ls at hl ⊢
  have hl : lv_has ls 4 [(0, .ref (ad 0)), (1, .int x1), (2, .int x2)] := hl
  refine lv_aload_n hx hb dX3_cover_0 rfl (lv_at hl 0 rfl) ?_
  refine lv_iload_n hx hb dX3_cover_1 rfl (lv_at hl 2 rfl) ?_
  exact vx_callv (vx_runV (As := [.int x2]) (rest := []) ⟨hx, hb, hml, hown, hts⟩ (thX3_setAt l hlt D T N0 ad F V sr C x2 hbad) (cwV 1 hts gX3_cover_X3_setAt rfl rfl rfl (by decide +kernel) ⟨Nat.le_of_ble_eq_true rfl, Nat.le_of_ble_eq_true rfl⟩) (preXV hK hKX rfl hw.o rfl hw) rfl rfl hl.1 rfl (lv_room (Nat.le_of_ble_eq_true rfl)) dX3_cover_2 ⟨Nat.le_of_ble_eq_true rfl, Nat.le_of_ble_eq_true rfl⟩) hS (fun q _ h9 => h9) (fun q h9 => h9) (fun q _ h9 => h9) (fun E ce q9 u t H1 locs1 ht hvm _ hE hz hk hS hce hcv hcl => by
    subst hE
    exact vx_out (fun z hz => absurd (hex z hz) (fun f => f)) hlocks hce hcv hcl (fun t ht _ => ⟨(), trivial, rfl, hS.F ht⟩) hS.2.2 (Nat.le_of_ble_eq_true rfl) (Nat.le_of_ble_eq_true rfl)) (fun u t H1 locs1 ht hvm hf => hf.elim)

set_option maxHeartbeats 4000000 in
set_option maxRecDepth 100000 in
theorem thX3_cover_2 (l : Launch) (hlt : l.stackTraces = false) (D : va_G) (T : Nat → ClassId) (N0 : Nat) (ad : Nat → Nat) (F V : Nat → Nat → Int32) (sr : SRs) (C : Nat → Int32) (k2 : Nat) (x1 : Int32) (h2 : k2 < 8) (hbad : x1 < 0 ∨ ¬ x1 ≤ nI 255) : vx_Met l yX3_cover wsX3_cover ({ frames := 7, cells := 1, slots := 6, locals := 102 }) (cX D T N0 [.ref (ad 0), .int x1, .int (nI k2)] (fun H => PLW D T ad F V sr C H)) (va_Qv (fun (_ : Unit) => False) (fun _ _ => True) (fun q : Nat => N0 ≤ q)) (xQ IAE (fun q : Nat => N0 ≤ q)) 1 6 (fun q : Nat => N0 ≤ q) := by
  refine vx_ofW (cc := cX3_cover) (maxL := 4) (ret := (some .int)) (by decide) rfl ?_
  intro p e s m args below meth c s₁ B hml hex hv9
  obtain ⟨rfl, hK, hw, hKX⟩ := hv9
  have hx := B.exec
  have hb := B.bytes
  have hts := atoms_spec (ws := wsX3_cover) B.pre
  have hown : s.vm.findClass RX3 = some m.cls := findClass_of_methodNamed B.named
  have hlocks := B.notSynchronized
  have hS : va_S (fun q : Nat => N0 ≤ q) s.heap s.heap [] := va_S.rf
  have hl := lv_entry ([.ref (ad 0), .int x1, .int (nI k2)]) (n := 4) (Nat.le_of_ble_eq_true rfl)
  rw [lg_entry_eq]
  generalize (lg_sl ([.ref (ad 0), .int x1, .int (nI k2)]) ++ List.replicate (4 - (lg_sl ([.ref (ad 0), .int x1, .int (nI k2)])).length) Slot.unset).toArray = ls at hl ⊢
  have hl : lv_has ls 4 [(0, .ref (ad 0)), (1, .int x1), (2, .int (nI k2))] := hl
  refine lv_aload_n hx hb dX3_cover_0 rfl (lv_at hl 0 rfl) ?_
  refine lv_iload_n hx hb dX3_cover_1 rfl (lv_at hl 2 rfl) ?_
  refine va_csr (ad := fun k => .ref k) (va_runV (As := [.int (nI k2)]) (rest := []) ⟨hx, hb, hml, hown, hts⟩ (conX3_setAt l D T ad F V sr C k2 (by omega)) (cwV 1 hts gX3_cover_X3_setAt rfl rfl rfl (by decide +kernel) ⟨Nat.le_of_ble_eq_true rfl, Nat.le_of_ble_eq_true rfl⟩) (preV hK hw.o rfl hw) rfl rfl hl.1 rfl (lv_room (Nat.le_of_ble_eq_true rfl)) dX3_cover_2 ⟨Nat.le_of_ble_eq_true rfl, Nat.le_of_ble_eq_true rfl⟩).run (fun r1 hr1 => ?_)
  subst hr1
  refine lv_astore_n (lv' := [(3, .ref (ad (4 + k2))), (0, .ref (ad 0)), (1, .int x1), (2, .int (nI k2))]) hx hb dX3_cover_5 rfl hl (by decide) rfl (fun ls hl => ?_)
  refine lv_iload_n hx hb dX3_cover_6 rfl (lv_at hl 2 rfl) ?_
  exact vx_callv (vx_runS (As := [.int x1]) (rest := []) ⟨hx, hb, hml, hown, hts⟩ (thX3_checkFamily l hlt D T N0 x1 hbad) (va_cwS 1 hts gX3_cover_X3_checkFamily rfl rfl rfl (by decide +kernel) ⟨Nat.le_of_ble_eq_true rfl, Nat.le_of_ble_eq_true rfl⟩) (preX hK hKX rfl trivial) rfl rfl hl.1 rfl (lv_room (Nat.le_of_ble_eq_true rfl)) dX3_cover_7 ⟨Nat.le_of_ble_eq_true rfl, Nat.le_of_ble_eq_true rfl⟩) hS (fun q _ h9 => h9) (fun q h9 => h9) (fun q _ h9 => h9) (fun E ce q9 u t H1 locs1 ht hvm _ hE hz hk hS hce hcv hcl => by
    subst hE
    exact vx_out (fun z hz => absurd (hex z hz) (fun f => f)) hlocks hce hcv hcl (fun t ht _ => ⟨(), trivial, rfl, hS.F ht⟩) hS.2.2 (Nat.le_of_ble_eq_true rfl) (Nat.le_of_ble_eq_true rfl)) (fun u t H1 locs1 ht hvm hf => hf.elim)

set_option maxHeartbeats 4000000 in
set_option maxRecDepth 100000 in
theorem thX3_covers_1 (l : Launch) (hlt : l.stackTraces = false) (D : va_G) (T : Nat → ClassId) (N0 : Nat) (ad : Nat → Nat) (F V : Nat → Nat → Int32) (sr : SRs) (C : Nat → Int32) (x1 x2 x3 : Int32) (hbad : x2 < 0 ∨ nI 8 ≤ x2) : vx_Met l yX3_covers wsX3_covers ({ frames := 7, cells := 1, slots := 6, locals := 104 }) (cX D T N0 [.ref (ad 0), .int x1, .int x2, .int x3] (fun H => PLW D T ad F V sr C H)) (va_Qv (fun (_ : Unit) => False) (fun _ _ => True) (fun q : Nat => N0 ≤ q)) (xQ IOB (fun q : Nat => N0 ≤ q)) 1 6 (fun q : Nat => N0 ≤ q) := by
  refine vx_ofW (cc := cX3_covers) (maxL := 6) (ret := (some .int)) (by decide) rfl ?_
  intro p e s m args below meth c s₁ B hml hex hv9
  obtain ⟨rfl, hK, hw, hKX⟩ := hv9
  have hx := B.exec
  have hb := B.bytes
  have hts := atoms_spec (ws := wsX3_covers) B.pre
  have hown : s.vm.findClass RX3 = some m.cls := findClass_of_methodNamed B.named
  have hlocks := B.notSynchronized
  have hS : va_S (fun q : Nat => N0 ≤ q) s.heap s.heap [] := va_S.rf
  have hl := lv_entry ([.ref (ad 0), .int x1, .int x2, .int x3]) (n := 6) (Nat.le_of_ble_eq_true rfl)
  rw [lg_entry_eq]
  generalize (lg_sl ([.ref (ad 0), .int x1, .int x2, .int x3]) ++ List.replicate (6 - (lg_sl ([.ref (ad 0), .int x1, .int x2, .int x3])).length) Slot.unset).toArray = ls at hl ⊢
  have hl : lv_has ls 6 [(0, .ref (ad 0)), (1, .int x1), (2, .int x2), (3, .int x3)] := hl
  refine lv_aload_n hx hb dX3_covers_0 rfl (lv_at hl 0 rfl) ?_
  refine lv_iload_n hx hb dX3_covers_1 rfl (lv_at hl 2 rfl) ?_
  exact vx_callv (vx_runV (As := [.int x2]) (rest := []) ⟨hx, hb, hml, hown, hts⟩ (thX3_setAt l hlt D T N0 ad F V sr C x2 hbad) (cwV 1 hts gX3_covers_X3_setAt rfl rfl rfl (by decide +kernel) ⟨Nat.le_of_ble_eq_true rfl, Nat.le_of_ble_eq_true rfl⟩) (preXV hK hKX rfl hw.o rfl hw) rfl rfl hl.1 rfl (lv_room (Nat.le_of_ble_eq_true rfl)) dX3_covers_2 ⟨Nat.le_of_ble_eq_true rfl, Nat.le_of_ble_eq_true rfl⟩) hS (fun q _ h9 => h9) (fun q h9 => h9) (fun q _ h9 => h9) (fun E ce q9 u t H1 locs1 ht hvm _ hE hz hk hS hce hcv hcl => by
    subst hE
    exact vx_out (fun z hz => absurd (hex z hz) (fun f => f)) hlocks hce hcv hcl (fun t ht _ => ⟨(), trivial, rfl, hS.F ht⟩) hS.2.2 (Nat.le_of_ble_eq_true rfl) (Nat.le_of_ble_eq_true rfl)) (fun u t H1 locs1 ht hvm hf => hf.elim)

set_option maxHeartbeats 4000000 in
set_option maxRecDepth 100000 in
theorem thX3_covers_2 (l : Launch) (hlt : l.stackTraces = false) (D : va_G) (T : Nat → ClassId) (N0 : Nat) (ad : Nat → Nat) (F V : Nat → Nat → Int32) (sr : SRs) (C : Nat → Int32) (k2 : Nat) (x1 x3 : Int32) (h2 : k2 < 8) (hbad : x1 < 0 ∨ ¬ x1 ≤ nI 255) : vx_Met l yX3_covers wsX3_covers ({ frames := 7, cells := 1, slots := 6, locals := 102 }) (cX D T N0 [.ref (ad 0), .int x1, .int (nI k2), .int x3] (fun H => PLW D T ad F V sr C H)) (va_Qv (fun (_ : Unit) => False) (fun _ _ => True) (fun q : Nat => N0 ≤ q)) (xQ IAE (fun q : Nat => N0 ≤ q)) 1 6 (fun q : Nat => N0 ≤ q) := by
  refine vx_ofW (cc := cX3_covers) (maxL := 6) (ret := (some .int)) (by decide) rfl ?_
  intro p e s m args below meth c s₁ B hml hex hv9
  obtain ⟨rfl, hK, hw, hKX⟩ := hv9
  have hx := B.exec
  have hb := B.bytes
  have hts := atoms_spec (ws := wsX3_covers) B.pre
  have hown : s.vm.findClass RX3 = some m.cls := findClass_of_methodNamed B.named
  have hlocks := B.notSynchronized
  have hS : va_S (fun q : Nat => N0 ≤ q) s.heap s.heap [] := va_S.rf
  have hl := lv_entry ([.ref (ad 0), .int x1, .int (nI k2), .int x3]) (n := 6) (Nat.le_of_ble_eq_true rfl)
  rw [lg_entry_eq]
  generalize (lg_sl ([.ref (ad 0), .int x1, .int (nI k2), .int x3]) ++ List.replicate (6 - (lg_sl ([.ref (ad 0), .int x1, .int (nI k2), .int x3])).length) Slot.unset).toArray = ls at hl ⊢
  have hl : lv_has ls 6 [(0, .ref (ad 0)), (1, .int x1), (2, .int (nI k2)), (3, .int x3)] := hl
  refine lv_aload_n hx hb dX3_covers_0 rfl (lv_at hl 0 rfl) ?_
  refine lv_iload_n hx hb dX3_covers_1 rfl (lv_at hl 2 rfl) ?_
  refine va_csr (ad := fun k => .ref k) (va_runV (As := [.int (nI k2)]) (rest := []) ⟨hx, hb, hml, hown, hts⟩ (conX3_setAt l D T ad F V sr C k2 (by omega)) (cwV 1 hts gX3_covers_X3_setAt rfl rfl rfl (by decide +kernel) ⟨Nat.le_of_ble_eq_true rfl, Nat.le_of_ble_eq_true rfl⟩) (preV hK hw.o rfl hw) rfl rfl hl.1 rfl (lv_room (Nat.le_of_ble_eq_true rfl)) dX3_covers_2 ⟨Nat.le_of_ble_eq_true rfl, Nat.le_of_ble_eq_true rfl⟩).run (fun r1 hr1 => ?_)
  subst hr1
  refine lv_astore (lv' := [(4, .ref (ad (4 + k2))), (0, .ref (ad 0)), (1, .int x1), (2, .int (nI k2)), (3, .int x3)]) hx hb dX3_covers_5 hl (by decide) rfl (fun ls hl => ?_)
  refine lv_iload_n hx hb dX3_covers_7 rfl (lv_at hl 2 rfl) ?_
  exact vx_callv (vx_runS (As := [.int x1]) (rest := []) ⟨hx, hb, hml, hown, hts⟩ (thX3_checkFamily l hlt D T N0 x1 hbad) (va_cwS 1 hts gX3_covers_X3_checkFamily rfl rfl rfl (by decide +kernel) ⟨Nat.le_of_ble_eq_true rfl, Nat.le_of_ble_eq_true rfl⟩) (preX hK hKX rfl trivial) rfl rfl hl.1 rfl (lv_room (Nat.le_of_ble_eq_true rfl)) dX3_covers_8 ⟨Nat.le_of_ble_eq_true rfl, Nat.le_of_ble_eq_true rfl⟩) hS (fun q _ h9 => h9) (fun q h9 => h9) (fun q _ h9 => h9) (fun E ce q9 u t H1 locs1 ht hvm _ hE hz hk hS hce hcv hcl => by
    subst hE
    exact vx_out (fun z hz => absurd (hex z hz) (fun f => f)) hlocks hce hcv hcl (fun t ht _ => ⟨(), trivial, rfl, hS.F ht⟩) hS.2.2 (Nat.le_of_ble_eq_true rfl) (Nat.le_of_ble_eq_true rfl)) (fun u t H1 locs1 ht hvm hf => hf.elim)

set_option maxHeartbeats 4000000 in
set_option maxRecDepth 100000 in
theorem thX3_apart_1 (l : Launch) (hlt : l.stackTraces = false) (D : va_G) (T : Nat → ClassId) (N0 : Nat) (ad : Nat → Nat) (F V : Nat → Nat → Int32) (sr : SRs) (C : Nat → Int32) (x1 : Int32) (hbad : x1 < 0 ∨ ¬ x1 ≤ nI 255) : vx_Met l yX3_apart wsX3_apart ({ frames := 7, cells := 1, slots := 6, locals := 102 }) (cX D T N0 [.ref (ad 0), .int x1] (fun H => PLW D T ad F V sr C H)) (va_Qv (fun (_ : Unit) => False) (fun _ _ => True) (fun q : Nat => N0 ≤ q)) (xQ IAE (fun q : Nat => N0 ≤ q)) 1 6 (fun q : Nat => N0 ≤ q) := by
  refine vx_ofW (cc := cX3_apart) (maxL := 2) (ret := (some .int)) (by decide) rfl ?_
  intro p e s m args below meth c s₁ B hml hex hv9
  obtain ⟨rfl, hK, hw, hKX⟩ := hv9
  have hx := B.exec
  have hb := B.bytes
  have hts := atoms_spec (ws := wsX3_apart) B.pre
  have hown : s.vm.findClass RX3 = some m.cls := findClass_of_methodNamed B.named
  have hlocks := B.notSynchronized
  have hS : va_S (fun q : Nat => N0 ≤ q) s.heap s.heap [] := va_S.rf
  have hl := lv_entry ([.ref (ad 0), .int x1]) (n := 2) (Nat.le_of_ble_eq_true rfl)
  rw [lg_entry_eq]
  generalize (lg_sl ([.ref (ad 0), .int x1]) ++ List.replicate (2 - (lg_sl ([.ref (ad 0), .int x1])).length) Slot.unset).toArray = ls at hl ⊢
  have hl : lv_has ls 2 [(0, .ref (ad 0)), (1, .int x1)] := hl
  refine lv_iload_n hx hb dX3_apart_0 rfl (lv_at hl 1 rfl) ?_
  exact vx_callv (vx_runS (As := [.int x1]) (rest := []) ⟨hx, hb, hml, hown, hts⟩ (thX3_checkFamily l hlt D T N0 x1 hbad) (va_cwS 1 hts gX3_apart_X3_checkFamily rfl rfl rfl (by decide +kernel) ⟨Nat.le_of_ble_eq_true rfl, Nat.le_of_ble_eq_true rfl⟩) (preX hK hKX rfl trivial) rfl rfl hl.1 rfl (lv_room (Nat.le_of_ble_eq_true rfl)) dX3_apart_1 ⟨Nat.le_of_ble_eq_true rfl, Nat.le_of_ble_eq_true rfl⟩) hS (fun q _ h9 => h9) (fun q h9 => h9) (fun q _ h9 => h9) (fun E ce q9 u t H1 locs1 ht hvm _ hE hz hk hS hce hcv hcl => by
    subst hE
    exact vx_out (fun z hz => absurd (hex z hz) (fun f => f)) hlocks hce hcv hcl (fun t ht _ => ⟨(), trivial, rfl, hS.F ht⟩) hS.2.2 (Nat.le_of_ble_eq_true rfl) (Nat.le_of_ble_eq_true rfl)) (fun u t H1 locs1 ht hvm hf => hf.elim)

set_option maxHeartbeats 4000000 in
set_option maxRecDepth 100000 in
theorem thX3_pins_1 (l : Launch) (hlt : l.stackTraces = false) (D : va_G) (T : Nat → ClassId) (N0 : Nat) (ad : Nat → Nat) (F V : Nat → Nat → Int32) (sr : SRs) (C : Nat → Int32) (x1 : Int32) (hbad : x1 < 0 ∨ ¬ x1 ≤ nI 255) : vx_Met l yX3_pins wsX3_pins ({ frames := 7, cells := 1, slots := 6, locals := 102 }) (cX D T N0 [.ref (ad 0), .int x1] (fun H => PLW D T ad F V sr C H)) (va_Qv (fun (_ : Unit) => False) (fun _ _ => True) (fun q : Nat => N0 ≤ q)) (xQ IAE (fun q : Nat => N0 ≤ q)) 1 6 (fun q : Nat => N0 ≤ q) := by
  refine vx_ofW (cc := cX3_pins) (maxL := 2) (ret := (some .int)) (by decide) rfl ?_
  intro p e s m args below meth c s₁ B hml hex hv9
  obtain ⟨rfl, hK, hw, hKX⟩ := hv9
  have hx := B.exec
  have hb := B.bytes
  have hts := atoms_spec (ws := wsX3_pins) B.pre
  have hown : s.vm.findClass RX3 = some m.cls := findClass_of_methodNamed B.named
  have hlocks := B.notSynchronized
  have hS : va_S (fun q : Nat => N0 ≤ q) s.heap s.heap [] := va_S.rf
  have hl := lv_entry ([.ref (ad 0), .int x1]) (n := 2) (Nat.le_of_ble_eq_true rfl)
  rw [lg_entry_eq]
  generalize (lg_sl ([.ref (ad 0), .int x1]) ++ List.replicate (2 - (lg_sl ([.ref (ad 0), .int x1])).length) Slot.unset).toArray = ls at hl ⊢
  have hl : lv_has ls 2 [(0, .ref (ad 0)), (1, .int x1)] := hl
  refine lv_iload_n hx hb dX3_pins_0 rfl (lv_at hl 1 rfl) ?_
  exact vx_callv (vx_runS (As := [.int x1]) (rest := []) ⟨hx, hb, hml, hown, hts⟩ (thX3_checkFamily l hlt D T N0 x1 hbad) (va_cwS 1 hts gX3_pins_X3_checkFamily rfl rfl rfl (by decide +kernel) ⟨Nat.le_of_ble_eq_true rfl, Nat.le_of_ble_eq_true rfl⟩) (preX hK hKX rfl trivial) rfl rfl hl.1 rfl (lv_room (Nat.le_of_ble_eq_true rfl)) dX3_pins_1 ⟨Nat.le_of_ble_eq_true rfl, Nat.le_of_ble_eq_true rfl⟩) hS (fun q _ h9 => h9) (fun q h9 => h9) (fun q _ h9 => h9) (fun E ce q9 u t H1 locs1 ht hvm _ hE hz hk hS hce hcv hcl => by
    subst hE
    exact vx_out (fun z hz => absurd (hex z hz) (fun f => f)) hlocks hce hcv hcl (fun t ht _ => ⟨(), trivial, rfl, hS.F ht⟩) hS.2.2 (Nat.le_of_ble_eq_true rfl) (Nat.le_of_ble_eq_true rfl)) (fun u t H1 locs1 ht hvm hf => hf.elim)

set_option maxHeartbeats 4000000 in
set_option maxRecDepth 100000 in
theorem thX3_meetWith_1 (l : Launch) (hlt : l.stackTraces = false) (D : va_G) (T : Nat → ClassId) (N0 : Nat) (ad : Nat → Nat) (F V : Nat → Nat → Int32) (sr : SRs) (C : Nat → Int32) (x1 x2 x3 : Int32) (hbad : x1 < 0 ∨ nI 8 ≤ x1) : vx_Met l yX3_meetWith wsX3_meetWith ({ frames := 7, cells := 1, slots := 6, locals := 104 }) (cX D T N0 [.ref (ad 0), .int x1, .int x2, .int x3] (fun H => PLW D T ad F V sr C H)) (va_Qv (fun (_ : Unit) => False) (fun _ _ => True) (fun q : Nat => N0 ≤ q)) (xQ IOB (fun q : Nat => N0 ≤ q)) 1 6 (fun q : Nat => N0 ≤ q) := by
  refine vx_ofW (cc := cX3_meetWith) (maxL := 8) (ret := (some .int)) (by decide) rfl ?_
  intro p e s m args below meth c s₁ B hml hex hv9
  obtain ⟨rfl, hK, hw, hKX⟩ := hv9
  have hx := B.exec
  have hb := B.bytes
  have hts := atoms_spec (ws := wsX3_meetWith) B.pre
  have hown : s.vm.findClass RX3 = some m.cls := findClass_of_methodNamed B.named
  have hlocks := B.notSynchronized
  have hS : va_S (fun q : Nat => N0 ≤ q) s.heap s.heap [] := va_S.rf
  have hl := lv_entry ([.ref (ad 0), .int x1, .int x2, .int x3]) (n := 8) (Nat.le_of_ble_eq_true rfl)
  rw [lg_entry_eq]
  generalize (lg_sl ([.ref (ad 0), .int x1, .int x2, .int x3]) ++ List.replicate (8 - (lg_sl ([.ref (ad 0), .int x1, .int x2, .int x3])).length) Slot.unset).toArray = ls at hl ⊢
  have hl : lv_has ls 8 [(0, .ref (ad 0)), (1, .int x1), (2, .int x2), (3, .int x3)] := hl
  refine lv_aload_n hx hb dX3_meetWith_0 rfl (lv_at hl 0 rfl) ?_
  refine lv_iload_n hx hb dX3_meetWith_1 rfl (lv_at hl 1 rfl) ?_
  exact vx_callv (vx_runV (As := [.int x1]) (rest := []) ⟨hx, hb, hml, hown, hts⟩ (thX3_setAt l hlt D T N0 ad F V sr C x1 hbad) (cwV 1 hts gX3_meetWith_X3_setAt rfl rfl rfl (by decide +kernel) ⟨Nat.le_of_ble_eq_true rfl, Nat.le_of_ble_eq_true rfl⟩) (preXV hK hKX rfl hw.o rfl hw) rfl rfl hl.1 rfl (lv_room (Nat.le_of_ble_eq_true rfl)) dX3_meetWith_2 ⟨Nat.le_of_ble_eq_true rfl, Nat.le_of_ble_eq_true rfl⟩) hS (fun q _ h9 => h9) (fun q h9 => h9) (fun q _ h9 => h9) (fun E ce q9 u t H1 locs1 ht hvm _ hE hz hk hS hce hcv hcl => by
    subst hE
    exact vx_out (fun z hz => absurd (hex z hz) (fun f => f)) hlocks hce hcv hcl (fun t ht _ => ⟨(), trivial, rfl, hS.F ht⟩) hS.2.2 (Nat.le_of_ble_eq_true rfl) (Nat.le_of_ble_eq_true rfl)) (fun u t H1 locs1 ht hvm hf => hf.elim)

set_option maxHeartbeats 4000000 in
set_option maxRecDepth 100000 in
theorem thX3_meetWith_2 (l : Launch) (hlt : l.stackTraces = false) (D : va_G) (T : Nat → ClassId) (N0 : Nat) (ad : Nat → Nat) (F V : Nat → Nat → Int32) (sr : SRs) (C : Nat → Int32) (k1 : Nat) (x2 x3 : Int32) (h1 : k1 < 8) (hbad : x3 < 0 ∨ nI 8 ≤ x3) : vx_Met l yX3_meetWith wsX3_meetWith ({ frames := 7, cells := 1, slots := 6, locals := 104 }) (cX D T N0 [.ref (ad 0), .int (nI k1), .int x2, .int x3] (fun H => PLW D T ad F V sr C H)) (va_Qv (fun (_ : Unit) => False) (fun _ _ => True) (fun q : Nat => N0 ≤ q)) (xQ IOB (fun q : Nat => N0 ≤ q)) 1 6 (fun q : Nat => N0 ≤ q) := by
  refine vx_ofW (cc := cX3_meetWith) (maxL := 8) (ret := (some .int)) (by decide) rfl ?_
  intro p e s m args below meth c s₁ B hml hex hv9
  obtain ⟨rfl, hK, hw, hKX⟩ := hv9
  have hx := B.exec
  have hb := B.bytes
  have hts := atoms_spec (ws := wsX3_meetWith) B.pre
  have hown : s.vm.findClass RX3 = some m.cls := findClass_of_methodNamed B.named
  have hlocks := B.notSynchronized
  have hS : va_S (fun q : Nat => N0 ≤ q) s.heap s.heap [] := va_S.rf
  have hl := lv_entry ([.ref (ad 0), .int (nI k1), .int x2, .int x3]) (n := 8) (Nat.le_of_ble_eq_true rfl)
  rw [lg_entry_eq]
  generalize (lg_sl ([.ref (ad 0), .int (nI k1), .int x2, .int x3]) ++ List.replicate (8 - (lg_sl ([.ref (ad 0), .int (nI k1), .int x2, .int x3])).length) Slot.unset).toArray = ls at hl ⊢
  have hl : lv_has ls 8 [(0, .ref (ad 0)), (1, .int (nI k1)), (2, .int x2), (3, .int x3)] := hl
  refine lv_aload_n hx hb dX3_meetWith_0 rfl (lv_at hl 0 rfl) ?_
  refine lv_iload_n hx hb dX3_meetWith_1 rfl (lv_at hl 1 rfl) ?_
  refine va_csr (ad := fun k => .ref k) (va_runV (As := [.int (nI k1)]) (rest := []) ⟨hx, hb, hml, hown, hts⟩ (conX3_setAt l D T ad F V sr C k1 (by omega)) (cwV 1 hts gX3_meetWith_X3_setAt rfl rfl rfl (by decide +kernel) ⟨Nat.le_of_ble_eq_true rfl, Nat.le_of_ble_eq_true rfl⟩) (preV hK hw.o rfl hw) rfl rfl hl.1 rfl (lv_room (Nat.le_of_ble_eq_true rfl)) dX3_meetWith_2 ⟨Nat.le_of_ble_eq_true rfl, Nat.le_of_ble_eq_true rfl⟩).run (fun r1 hr1 => ?_)
  subst hr1
  refine lv_astore (lv' := [(4, .ref (ad (4 + k1))), (0, .ref (ad 0)), (1, .int (nI k1)), (2, .int x2), (3, .int x3)]) hx hb dX3_meetWith_5 hl (by decide) rfl (fun ls hl => ?_)
  refine lv_aload_n hx hb dX3_meetWith_7 rfl (lv_at hl 1 rfl) ?_
  refine lv_iload_n hx hb dX3_meetWith_8 rfl (lv_at hl 4 rfl) ?_
  exact vx_callv (vx_runV (As := [.int x3]) (rest := []) ⟨hx, hb, hml, hown, hts⟩ (thX3_setAt l hlt D T N0 ad F V sr C x3 hbad) (cwV 1 hts gX3_meetWith_X3_setAt rfl rfl rfl (by decide +kernel) ⟨Nat.le_of_ble_eq_true rfl, Nat.le_of_ble_eq_true rfl⟩) (preXV hK hKX rfl hw.o rfl hw) rfl rfl hl.1 rfl (lv_room (Nat.le_of_ble_eq_true rfl)) dX3_meetWith_9 ⟨Nat.le_of_ble_eq_true rfl, Nat.le_of_ble_eq_true rfl⟩) hS (fun q _ h9 => h9) (fun q h9 => h9) (fun q _ h9 => h9) (fun E ce q9 u t H1 locs1 ht hvm _ hE hz hk hS hce hcv hcl => by
    subst hE
    exact vx_out (fun z hz => absurd (hex z hz) (fun f => f)) hlocks hce hcv hcl (fun t ht _ => ⟨(), trivial, rfl, hS.F ht⟩) hS.2.2 (Nat.le_of_ble_eq_true rfl) (Nat.le_of_ble_eq_true rfl)) (fun u t H1 locs1 ht hvm hf => hf.elim)

set_option maxHeartbeats 4000000 in
set_option maxRecDepth 100000 in
theorem thX3_meetWith_3 (l : Launch) (hlt : l.stackTraces = false) (D : va_G) (T : Nat → ClassId) (N0 : Nat) (ad : Nat → Nat) (F V : Nat → Nat → Int32) (sr : SRs) (C : Nat → Int32) (k1 k3 : Nat) (x2 : Int32) (h1 : k1 < 8) (h3 : k3 < 8) (hbad : x2 < -100 ∨ ¬ x2 ≤ nI 100) : vx_Met l yX3_meetWith wsX3_meetWith ({ frames := 7, cells := 1, slots := 6, locals := 102 }) (cX D T N0 [.ref (ad 0), .int (nI k1), .int x2, .int (nI k3)] (fun H => PLW D T ad F V sr C H)) (va_Qv (fun (_ : Unit) => False) (fun _ _ => True) (fun q : Nat => N0 ≤ q)) (xQ IAE (fun q : Nat => N0 ≤ q)) 1 6 (fun q : Nat => N0 ≤ q) := by
  refine vx_ofW (cc := cX3_meetWith) (maxL := 8) (ret := (some .int)) (by decide) rfl ?_
  intro p e s m args below meth c s₁ B hml hex hv9
  obtain ⟨rfl, hK, hw, hKX⟩ := hv9
  have hx := B.exec
  have hb := B.bytes
  have hts := atoms_spec (ws := wsX3_meetWith) B.pre
  have hown : s.vm.findClass RX3 = some m.cls := findClass_of_methodNamed B.named
  have hlocks := B.notSynchronized
  have hS : va_S (fun q : Nat => N0 ≤ q) s.heap s.heap [] := va_S.rf
  have hl := lv_entry ([.ref (ad 0), .int (nI k1), .int x2, .int (nI k3)]) (n := 8) (Nat.le_of_ble_eq_true rfl)
  rw [lg_entry_eq]
  generalize (lg_sl ([.ref (ad 0), .int (nI k1), .int x2, .int (nI k3)]) ++ List.replicate (8 - (lg_sl ([.ref (ad 0), .int (nI k1), .int x2, .int (nI k3)])).length) Slot.unset).toArray = ls at hl ⊢
  have hl : lv_has ls 8 [(0, .ref (ad 0)), (1, .int (nI k1)), (2, .int x2), (3, .int (nI k3))] := hl
  refine lv_aload_n hx hb dX3_meetWith_0 rfl (lv_at hl 0 rfl) ?_
  refine lv_iload_n hx hb dX3_meetWith_1 rfl (lv_at hl 1 rfl) ?_
  refine va_csr (ad := fun k => .ref k) (va_runV (As := [.int (nI k1)]) (rest := []) ⟨hx, hb, hml, hown, hts⟩ (conX3_setAt l D T ad F V sr C k1 (by omega)) (cwV 1 hts gX3_meetWith_X3_setAt rfl rfl rfl (by decide +kernel) ⟨Nat.le_of_ble_eq_true rfl, Nat.le_of_ble_eq_true rfl⟩) (preV hK hw.o rfl hw) rfl rfl hl.1 rfl (lv_room (Nat.le_of_ble_eq_true rfl)) dX3_meetWith_2 ⟨Nat.le_of_ble_eq_true rfl, Nat.le_of_ble_eq_true rfl⟩).run (fun r1 hr1 => ?_)
  subst hr1
  refine lv_astore (lv' := [(4, .ref (ad (4 + k1))), (0, .ref (ad 0)), (1, .int (nI k1)), (2, .int x2), (3, .int (nI k3))]) hx hb dX3_meetWith_5 hl (by decide) rfl (fun ls hl => ?_)
  refine lv_aload_n hx hb dX3_meetWith_7 rfl (lv_at hl 1 rfl) ?_
  refine lv_iload_n hx hb dX3_meetWith_8 rfl (lv_at hl 4 rfl) ?_
  refine va_csr (ad := fun k => .ref k) (va_runV (As := [.int (nI k3)]) (rest := []) ⟨hx, hb, hml, hown, hts⟩ (conX3_setAt l D T ad F V sr C k3 (by omega)) (cwV 1 hts gX3_meetWith_X3_setAt rfl rfl rfl (by decide +kernel) ⟨Nat.le_of_ble_eq_true rfl, Nat.le_of_ble_eq_true rfl⟩) (preV hK hw.o rfl hw) rfl rfl hl.1 rfl (lv_room (Nat.le_of_ble_eq_true rfl)) dX3_meetWith_9 ⟨Nat.le_of_ble_eq_true rfl, Nat.le_of_ble_eq_true rfl⟩).run (fun r2 hr2 => ?_)
  subst hr2
  refine lv_astore (lv' := [(5, .ref (ad (4 + k3))), (4, .ref (ad (4 + k1))), (0, .ref (ad 0)), (1, .int (nI k1)), (2, .int x2), (3, .int (nI k3))]) hx hb dX3_meetWith_12 hl (by decide) rfl (fun ls hl => ?_)
  refine lv_iload_n hx hb dX3_meetWith_14 rfl (lv_at hl 4 rfl) ?_
  exact vx_callv (vx_runS (As := [.int x2]) (rest := []) ⟨hx, hb, hml, hown, hts⟩ (thX3_checkMove l hlt D T N0 x2 hbad) (va_cwS 1 hts gX3_meetWith_X3_checkMove rfl rfl rfl (by decide +kernel) ⟨Nat.le_of_ble_eq_true rfl, Nat.le_of_ble_eq_true rfl⟩) (preX hK hKX rfl trivial) rfl rfl hl.1 rfl (lv_room (Nat.le_of_ble_eq_true rfl)) dX3_meetWith_15 ⟨Nat.le_of_ble_eq_true rfl, Nat.le_of_ble_eq_true rfl⟩) hS (fun q _ h9 => h9) (fun q h9 => h9) (fun q _ h9 => h9) (fun E ce q9 u t H1 locs1 ht hvm _ hE hz hk hS hce hcv hcl => by
    subst hE
    exact vx_out (fun z hz => absurd (hex z hz) (fun f => f)) hlocks hce hcv hcl (fun t ht _ => ⟨(), trivial, rfl, hS.F ht⟩) hS.2.2 (Nat.le_of_ble_eq_true rfl) (Nat.le_of_ble_eq_true rfl)) (fun u t H1 locs1 ht hvm hf => hf.elim)

set_option maxHeartbeats 4000000 in
set_option maxRecDepth 100000 in
theorem thX3_clear_1 (l : Launch) (hlt : l.stackTraces = false) (D : va_G) (T : Nat → ClassId) (N0 : Nat) (ad : Nat → Nat) (F V : Nat → Nat → Int32) (sr : SRs) (C : Nat → Int32) (x1 x2 : Int32) (hbad : x1 < 0 ∨ nI 8 ≤ x1) : vx_Met l yX3_clear wsX3_clear ({ frames := 7, cells := 1, slots := 6, locals := 104 }) (cX D T N0 [.ref (ad 0), .int x1, .int x2] (fun H => PLW D T ad F V sr C H)) (va_Qv (fun (_ : Unit) => False) (fun _ _ => True) (fun q : Nat => N0 ≤ q)) (xQ IOB (fun q : Nat => N0 ≤ q)) 1 6 (fun q : Nat => N0 ≤ q) := by
  refine vx_ofW (cc := cX3_clear) (maxL := 6) (ret := (some .int)) (by decide) rfl ?_
  intro p e s m args below meth c s₁ B hml hex hv9
  obtain ⟨rfl, hK, hw, hKX⟩ := hv9
  have hx := B.exec
  have hb := B.bytes
  have hts := atoms_spec (ws := wsX3_clear) B.pre
  have hown : s.vm.findClass RX3 = some m.cls := findClass_of_methodNamed B.named
  have hlocks := B.notSynchronized
  have hS : va_S (fun q : Nat => N0 ≤ q) s.heap s.heap [] := va_S.rf
  have hl := lv_entry ([.ref (ad 0), .int x1, .int x2]) (n := 6) (Nat.le_of_ble_eq_true rfl)
  rw [lg_entry_eq]
  generalize (lg_sl ([.ref (ad 0), .int x1, .int x2]) ++ List.replicate (6 - (lg_sl ([.ref (ad 0), .int x1, .int x2])).length) Slot.unset).toArray = ls at hl ⊢
  have hl : lv_has ls 6 [(0, .ref (ad 0)), (1, .int x1), (2, .int x2)] := hl
  refine lv_aload_n hx hb dX3_clear_0 rfl (lv_at hl 0 rfl) ?_
  refine lv_iload_n hx hb dX3_clear_1 rfl (lv_at hl 1 rfl) ?_
  exact vx_callv (vx_runV (As := [.int x1]) (rest := []) ⟨hx, hb, hml, hown, hts⟩ (thX3_setAt l hlt D T N0 ad F V sr C x1 hbad) (cwV 1 hts gX3_clear_X3_setAt rfl rfl rfl (by decide +kernel) ⟨Nat.le_of_ble_eq_true rfl, Nat.le_of_ble_eq_true rfl⟩) (preXV hK hKX rfl hw.o rfl hw) rfl rfl hl.1 rfl (lv_room (Nat.le_of_ble_eq_true rfl)) dX3_clear_2 ⟨Nat.le_of_ble_eq_true rfl, Nat.le_of_ble_eq_true rfl⟩) hS (fun q _ h9 => h9) (fun q h9 => h9) (fun q _ h9 => h9) (fun E ce q9 u t H1 locs1 ht hvm _ hE hz hk hS hce hcv hcl => by
    subst hE
    exact vx_out (fun z hz => absurd (hex z hz) (fun f => f)) hlocks hce hcv hcl (fun t ht _ => ⟨(), trivial, rfl, hS.F ht⟩) hS.2.2 (Nat.le_of_ble_eq_true rfl) (Nat.le_of_ble_eq_true rfl)) (fun u t H1 locs1 ht hvm hf => hf.elim)

set_option maxHeartbeats 4000000 in
set_option maxRecDepth 100000 in
theorem thX3_clear_2 (l : Launch) (hlt : l.stackTraces = false) (D : va_G) (T : Nat → ClassId) (N0 : Nat) (ad : Nat → Nat) (F V : Nat → Nat → Int32) (sr : SRs) (C : Nat → Int32) (k1 : Nat) (x2 : Int32) (h1 : k1 < 8) (hbad : x2 < 0 ∨ nI 8 ≤ x2) : vx_Met l yX3_clear wsX3_clear ({ frames := 7, cells := 1, slots := 6, locals := 104 }) (cX D T N0 [.ref (ad 0), .int (nI k1), .int x2] (fun H => PLW D T ad F V sr C H)) (va_Qv (fun (_ : Unit) => False) (fun _ _ => True) (fun q : Nat => N0 ≤ q)) (xQ IOB (fun q : Nat => N0 ≤ q)) 1 6 (fun q : Nat => N0 ≤ q) := by
  refine vx_ofW (cc := cX3_clear) (maxL := 6) (ret := (some .int)) (by decide) rfl ?_
  intro p e s m args below meth c s₁ B hml hex hv9
  obtain ⟨rfl, hK, hw, hKX⟩ := hv9
  have hx := B.exec
  have hb := B.bytes
  have hts := atoms_spec (ws := wsX3_clear) B.pre
  have hown : s.vm.findClass RX3 = some m.cls := findClass_of_methodNamed B.named
  have hlocks := B.notSynchronized
  have hS : va_S (fun q : Nat => N0 ≤ q) s.heap s.heap [] := va_S.rf
  have hl := lv_entry ([.ref (ad 0), .int (nI k1), .int x2]) (n := 6) (Nat.le_of_ble_eq_true rfl)
  rw [lg_entry_eq]
  generalize (lg_sl ([.ref (ad 0), .int (nI k1), .int x2]) ++ List.replicate (6 - (lg_sl ([.ref (ad 0), .int (nI k1), .int x2])).length) Slot.unset).toArray = ls at hl ⊢
  have hl : lv_has ls 6 [(0, .ref (ad 0)), (1, .int (nI k1)), (2, .int x2)] := hl
  refine lv_aload_n hx hb dX3_clear_0 rfl (lv_at hl 0 rfl) ?_
  refine lv_iload_n hx hb dX3_clear_1 rfl (lv_at hl 1 rfl) ?_
  refine va_csr (ad := fun k => .ref k) (va_runV (As := [.int (nI k1)]) (rest := []) ⟨hx, hb, hml, hown, hts⟩ (conX3_setAt l D T ad F V sr C k1 (by omega)) (cwV 1 hts gX3_clear_X3_setAt rfl rfl rfl (by decide +kernel) ⟨Nat.le_of_ble_eq_true rfl, Nat.le_of_ble_eq_true rfl⟩) (preV hK hw.o rfl hw) rfl rfl hl.1 rfl (lv_room (Nat.le_of_ble_eq_true rfl)) dX3_clear_2 ⟨Nat.le_of_ble_eq_true rfl, Nat.le_of_ble_eq_true rfl⟩).run (fun r1 hr1 => ?_)
  subst hr1
  refine lv_astore_n (lv' := [(3, .ref (ad (4 + k1))), (0, .ref (ad 0)), (1, .int (nI k1)), (2, .int x2)]) hx hb dX3_clear_5 rfl hl (by decide) rfl (fun ls hl => ?_)
  refine lv_aload_n hx hb dX3_clear_6 rfl (lv_at hl 1 rfl) ?_
  refine lv_iload_n hx hb dX3_clear_7 rfl (lv_at hl 3 rfl) ?_
  exact vx_callv (vx_runV (As := [.int x2]) (rest := []) ⟨hx, hb, hml, hown, hts⟩ (thX3_setAt l hlt D T N0 ad F V sr C x2 hbad) (cwV 1 hts gX3_clear_X3_setAt rfl rfl rfl (by decide +kernel) ⟨Nat.le_of_ble_eq_true rfl, Nat.le_of_ble_eq_true rfl⟩) (preXV hK hKX rfl hw.o rfl hw) rfl rfl hl.1 rfl (lv_room (Nat.le_of_ble_eq_true rfl)) dX3_clear_8 ⟨Nat.le_of_ble_eq_true rfl, Nat.le_of_ble_eq_true rfl⟩) hS (fun q _ h9 => h9) (fun q h9 => h9) (fun q _ h9 => h9) (fun E ce q9 u t H1 locs1 ht hvm _ hE hz hk hS hce hcv hcl => by
    subst hE
    exact vx_out (fun z hz => absurd (hex z hz) (fun f => f)) hlocks hce hcv hcl (fun t ht _ => ⟨(), trivial, rfl, hS.F ht⟩) hS.2.2 (Nat.le_of_ble_eq_true rfl) (Nat.le_of_ble_eq_true rfl)) (fun u t H1 locs1 ht hvm hf => hf.elim)

set_option maxHeartbeats 4000000 in
set_option maxRecDepth 100000 in
theorem thX3_best_1 (l : Launch) (hlt : l.stackTraces = false) (D : va_G) (T : Nat → ClassId) (N0 : Nat) (ad : Nat → Nat) (F V : Nat → Nat → Int32) (sr : SRs) (C : Nat → Int32) (x1 x2 : Int32) (hbad : x1 < 0 ∨ nI 5 ≤ x1) : vx_Met l yX3_best wsX3_best ({ frames := 7, cells := 1, slots := 6, locals := 104 }) (cX D T N0 [.ref (ad 0), .int x1, .int x2] (fun H => PLW D T ad F V sr C H)) (va_Qv (fun (_ : Unit) => False) (fun _ _ => True) (fun q : Nat => N0 ≤ q)) (xQ IOB (fun q : Nat => N0 ≤ q)) 1 6 (fun q : Nat => N0 ≤ q) := by
  refine vx_ofW (cc := cX3_best) (maxL := 8) (ret := (some .int)) (by decide) rfl ?_
  intro p e s m args below meth c s₁ B hml hex hv9
  obtain ⟨rfl, hK, hw, hKX⟩ := hv9
  have hx := B.exec
  have hb := B.bytes
  have hts := atoms_spec (ws := wsX3_best) B.pre
  have hown : s.vm.findClass RX3 = some m.cls := findClass_of_methodNamed B.named
  have hlocks := B.notSynchronized
  have hS : va_S (fun q : Nat => N0 ≤ q) s.heap s.heap [] := va_S.rf
  have hl := lv_entry ([.ref (ad 0), .int x1, .int x2]) (n := 8) (Nat.le_of_ble_eq_true rfl)
  rw [lg_entry_eq]
  generalize (lg_sl ([.ref (ad 0), .int x1, .int x2]) ++ List.replicate (8 - (lg_sl ([.ref (ad 0), .int x1, .int x2])).length) Slot.unset).toArray = ls at hl ⊢
  have hl : lv_has ls 8 [(0, .ref (ad 0)), (1, .int x1), (2, .int x2)] := hl
  refine lv_aload_n hx hb dX3_best_0 rfl (lv_at hl 0 rfl) ?_
  refine lv_iload_n hx hb dX3_best_1 rfl (lv_at hl 1 rfl) ?_
  exact vx_callv (vx_runV (As := [.int x1]) (rest := []) ⟨hx, hb, hml, hown, hts⟩ (thX3_functionAt l hlt D T N0 ad F V sr C x1 hbad) (cwV 1 hts gX3_best_X3_functionAt rfl rfl rfl (by decide +kernel) ⟨Nat.le_of_ble_eq_true rfl, Nat.le_of_ble_eq_true rfl⟩) (preXV hK hKX rfl hw.o rfl hw) rfl rfl hl.1 rfl (lv_room (Nat.le_of_ble_eq_true rfl)) dX3_best_2 ⟨Nat.le_of_ble_eq_true rfl, Nat.le_of_ble_eq_true rfl⟩) hS (fun q _ h9 => h9) (fun q h9 => h9) (fun q _ h9 => h9) (fun E ce q9 u t H1 locs1 ht hvm _ hE hz hk hS hce hcv hcl => by
    subst hE
    exact vx_out (fun z hz => absurd (hex z hz) (fun f => f)) hlocks hce hcv hcl (fun t ht _ => ⟨(), trivial, rfl, hS.F ht⟩) hS.2.2 (Nat.le_of_ble_eq_true rfl) (Nat.le_of_ble_eq_true rfl)) (fun u t H1 locs1 ht hvm hf => hf.elim)

set_option maxHeartbeats 4000000 in
set_option maxRecDepth 100000 in
theorem thX3_saves_1 (l : Launch) (hlt : l.stackTraces = false) (D : va_G) (T : Nat → ClassId) (N0 : Nat) (ad : Nat → Nat) (F V : Nat → Nat → Int32) (sr : SRs) (C : Nat → Int32) (x1 x2 x3 : Int32) (hbad : x2 < 0 ∨ nI 8 ≤ x2) : vx_Met l yX3_saves wsX3_saves ({ frames := 7, cells := 1, slots := 6, locals := 104 }) (cX D T N0 [.ref (ad 0), .int x1, .int x2, .int x3] (fun H => PLW D T ad F V sr C H)) (va_Qv (fun (_ : Unit) => False) (fun _ _ => True) (fun q : Nat => N0 ≤ q)) (xQ IOB (fun q : Nat => N0 ≤ q)) 1 6 (fun q : Nat => N0 ≤ q) := by
  refine vx_ofW (cc := cX3_saves) (maxL := 7) (ret := (some .int)) (by decide) rfl ?_
  intro p e s m args below meth c s₁ B hml hex hv9
  obtain ⟨rfl, hK, hw, hKX⟩ := hv9
  have hx := B.exec
  have hb := B.bytes
  have hts := atoms_spec (ws := wsX3_saves) B.pre
  have hown : s.vm.findClass RX3 = some m.cls := findClass_of_methodNamed B.named
  have hlocks := B.notSynchronized
  have hS : va_S (fun q : Nat => N0 ≤ q) s.heap s.heap [] := va_S.rf
  have hl := lv_entry ([.ref (ad 0), .int x1, .int x2, .int x3]) (n := 7) (Nat.le_of_ble_eq_true rfl)
  rw [lg_entry_eq]
  generalize (lg_sl ([.ref (ad 0), .int x1, .int x2, .int x3]) ++ List.replicate (7 - (lg_sl ([.ref (ad 0), .int x1, .int x2, .int x3])).length) Slot.unset).toArray = ls at hl ⊢
  have hl : lv_has ls 7 [(0, .ref (ad 0)), (1, .int x1), (2, .int x2), (3, .int x3)] := hl
  refine lv_aload_n hx hb dX3_saves_0 rfl (lv_at hl 0 rfl) ?_
  refine lv_iload_n hx hb dX3_saves_1 rfl (lv_at hl 2 rfl) ?_
  exact vx_callv (vx_runV (As := [.int x2]) (rest := []) ⟨hx, hb, hml, hown, hts⟩ (thX3_setAt l hlt D T N0 ad F V sr C x2 hbad) (cwV 1 hts gX3_saves_X3_setAt rfl rfl rfl (by decide +kernel) ⟨Nat.le_of_ble_eq_true rfl, Nat.le_of_ble_eq_true rfl⟩) (preXV hK hKX rfl hw.o rfl hw) rfl rfl hl.1 rfl (lv_room (Nat.le_of_ble_eq_true rfl)) dX3_saves_2 ⟨Nat.le_of_ble_eq_true rfl, Nat.le_of_ble_eq_true rfl⟩) hS (fun q _ h9 => h9) (fun q h9 => h9) (fun q _ h9 => h9) (fun E ce q9 u t H1 locs1 ht hvm _ hE hz hk hS hce hcv hcl => by
    subst hE
    exact vx_out (fun z hz => absurd (hex z hz) (fun f => f)) hlocks hce hcv hcl (fun t ht _ => ⟨(), trivial, rfl, hS.F ht⟩) hS.2.2 (Nat.le_of_ble_eq_true rfl) (Nat.le_of_ble_eq_true rfl)) (fun u t H1 locs1 ht hvm hf => hf.elim)

set_option maxHeartbeats 4000000 in
set_option maxRecDepth 100000 in
theorem thX3_saves_2 (l : Launch) (hlt : l.stackTraces = false) (D : va_G) (T : Nat → ClassId) (N0 : Nat) (ad : Nat → Nat) (F V : Nat → Nat → Int32) (sr : SRs) (C : Nat → Int32) (k2 : Nat) (x1 x3 : Int32) (h2 : k2 < 8) (hbad : x3 < 0 ∨ ¬ x3 < nI 8) : vx_Met l yX3_saves wsX3_saves ({ frames := 7, cells := 1, slots := 6, locals := 102 }) (cX D T N0 [.ref (ad 0), .int x1, .int (nI k2), .int x3] (fun H => PLW D T ad F V sr C H)) (va_Qv (fun (_ : Unit) => False) (fun _ _ => True) (fun q : Nat => N0 ≤ q)) (xQ IOB (fun q : Nat => N0 ≤ q)) 1 6 (fun q : Nat => N0 ≤ q) := by
  refine vx_ofW (cc := cX3_saves) (maxL := 7) (ret := (some .int)) (by decide) rfl ?_
  intro p e s m args below meth c s₁ B hml hex hv9
  obtain ⟨rfl, hK, hw, hKX⟩ := hv9
  have hx := B.exec
  have hb := B.bytes
  have hts := atoms_spec (ws := wsX3_saves) B.pre
  have hown : s.vm.findClass RX3 = some m.cls := findClass_of_methodNamed B.named
  have hlocks := B.notSynchronized
  have hS : va_S (fun q : Nat => N0 ≤ q) s.heap s.heap [] := va_S.rf
  have hl := lv_entry ([.ref (ad 0), .int x1, .int (nI k2), .int x3]) (n := 7) (Nat.le_of_ble_eq_true rfl)
  rw [lg_entry_eq]
  generalize (lg_sl ([.ref (ad 0), .int x1, .int (nI k2), .int x3]) ++ List.replicate (7 - (lg_sl ([.ref (ad 0), .int x1, .int (nI k2), .int x3])).length) Slot.unset).toArray = ls at hl ⊢
  have hl : lv_has ls 7 [(0, .ref (ad 0)), (1, .int x1), (2, .int (nI k2)), (3, .int x3)] := hl
  refine lv_aload_n hx hb dX3_saves_0 rfl (lv_at hl 0 rfl) ?_
  refine lv_iload_n hx hb dX3_saves_1 rfl (lv_at hl 2 rfl) ?_
  refine va_csr (ad := fun k => .ref k) (va_runV (As := [.int (nI k2)]) (rest := []) ⟨hx, hb, hml, hown, hts⟩ (conX3_setAt l D T ad F V sr C k2 (by omega)) (cwV 1 hts gX3_saves_X3_setAt rfl rfl rfl (by decide +kernel) ⟨Nat.le_of_ble_eq_true rfl, Nat.le_of_ble_eq_true rfl⟩) (preV hK hw.o rfl hw) rfl rfl hl.1 rfl (lv_room (Nat.le_of_ble_eq_true rfl)) dX3_saves_2 ⟨Nat.le_of_ble_eq_true rfl, Nat.le_of_ble_eq_true rfl⟩).run (fun r1 hr1 => ?_)
  subst hr1
  refine lv_astore (lv' := [(4, .ref (ad (4 + k2))), (0, .ref (ad 0)), (1, .int x1), (2, .int (nI k2)), (3, .int x3)]) hx hb dX3_saves_5 hl (by decide) rfl (fun ls hl => ?_)
  refine lv_iload_n hx hb dX3_saves_7 rfl (lv_at hl 4 rfl) ?_
  exact vx_callv (vx_runS (As := [.int x3]) (rest := []) ⟨hx, hb, hml, hown, hts⟩ (thX3_checkSet l hlt D T N0 x3 hbad) (va_cwS 1 hts gX3_saves_X3_checkSet rfl rfl rfl (by decide +kernel) ⟨Nat.le_of_ble_eq_true rfl, Nat.le_of_ble_eq_true rfl⟩) (preX hK hKX rfl trivial) rfl rfl hl.1 rfl (lv_room (Nat.le_of_ble_eq_true rfl)) dX3_saves_8 ⟨Nat.le_of_ble_eq_true rfl, Nat.le_of_ble_eq_true rfl⟩) hS (fun q _ h9 => h9) (fun q h9 => h9) (fun q _ h9 => h9) (fun E ce q9 u t H1 locs1 ht hvm _ hE hz hk hS hce hcv hcl => by
    subst hE
    exact vx_out (fun z hz => absurd (hex z hz) (fun f => f)) hlocks hce hcv hcl (fun t ht _ => ⟨(), trivial, rfl, hS.F ht⟩) hS.2.2 (Nat.le_of_ble_eq_true rfl) (Nat.le_of_ble_eq_true rfl)) (fun u t H1 locs1 ht hvm hf => hf.elim)

set_option maxHeartbeats 4000000 in
set_option maxRecDepth 100000 in
theorem thX3_saves_3 (l : Launch) (hlt : l.stackTraces = false) (D : va_G) (T : Nat → ClassId) (N0 : Nat) (ad : Nat → Nat) (F V : Nat → Nat → Int32) (sr : SRs) (C : Nat → Int32) (k2 k3 : Nat) (x1 : Int32) (h2 : k2 < 8) (h3 : k3 < 8) (hbad : x1 < 0 ∨ ¬ x1 ≤ nI 255) : vx_Met l yX3_saves wsX3_saves ({ frames := 7, cells := 1, slots := 6, locals := 102 }) (cX D T N0 [.ref (ad 0), .int x1, .int (nI k2), .int (nI k3)] (fun H => PLW D T ad F V sr C H)) (va_Qv (fun (_ : Unit) => False) (fun _ _ => True) (fun q : Nat => N0 ≤ q)) (xQ IAE (fun q : Nat => N0 ≤ q)) 1 6 (fun q : Nat => N0 ≤ q) := by
  refine vx_ofW (cc := cX3_saves) (maxL := 7) (ret := (some .int)) (by decide) rfl ?_
  intro p e s m args below meth c s₁ B hml hex hv9
  obtain ⟨rfl, hK, hw, hKX⟩ := hv9
  have hx := B.exec
  have hb := B.bytes
  have hts := atoms_spec (ws := wsX3_saves) B.pre
  have hown : s.vm.findClass RX3 = some m.cls := findClass_of_methodNamed B.named
  have hlocks := B.notSynchronized
  have hS : va_S (fun q : Nat => N0 ≤ q) s.heap s.heap [] := va_S.rf
  have hl := lv_entry ([.ref (ad 0), .int x1, .int (nI k2), .int (nI k3)]) (n := 7) (Nat.le_of_ble_eq_true rfl)
  rw [lg_entry_eq]
  generalize (lg_sl ([.ref (ad 0), .int x1, .int (nI k2), .int (nI k3)]) ++ List.replicate (7 - (lg_sl ([.ref (ad 0), .int x1, .int (nI k2), .int (nI k3)])).length) Slot.unset).toArray = ls at hl ⊢
  have hl : lv_has ls 7 [(0, .ref (ad 0)), (1, .int x1), (2, .int (nI k2)), (3, .int (nI k3))] := hl
  refine lv_aload_n hx hb dX3_saves_0 rfl (lv_at hl 0 rfl) ?_
  refine lv_iload_n hx hb dX3_saves_1 rfl (lv_at hl 2 rfl) ?_
  refine va_csr (ad := fun k => .ref k) (va_runV (As := [.int (nI k2)]) (rest := []) ⟨hx, hb, hml, hown, hts⟩ (conX3_setAt l D T ad F V sr C k2 (by omega)) (cwV 1 hts gX3_saves_X3_setAt rfl rfl rfl (by decide +kernel) ⟨Nat.le_of_ble_eq_true rfl, Nat.le_of_ble_eq_true rfl⟩) (preV hK hw.o rfl hw) rfl rfl hl.1 rfl (lv_room (Nat.le_of_ble_eq_true rfl)) dX3_saves_2 ⟨Nat.le_of_ble_eq_true rfl, Nat.le_of_ble_eq_true rfl⟩).run (fun r1 hr1 => ?_)
  subst hr1
  refine lv_astore (lv' := [(4, .ref (ad (4 + k2))), (0, .ref (ad 0)), (1, .int x1), (2, .int (nI k2)), (3, .int (nI k3))]) hx hb dX3_saves_5 hl (by decide) rfl (fun ls hl => ?_)
  refine lv_iload_n hx hb dX3_saves_7 rfl (lv_at hl 4 rfl) ?_
  refine va_csv (va_runS (As := [.int (nI k3)]) (rest := []) ⟨hx, hb, hml, hown, hts⟩ (conX3_checkSet l D T k3 (by omega)) (va_cwS 1 hts gX3_saves_X3_checkSet rfl rfl rfl (by decide +kernel) ⟨Nat.le_of_ble_eq_true rfl, Nat.le_of_ble_eq_true rfl⟩) (preS hK trivial) rfl rfl hl.1 rfl (lv_room (Nat.le_of_ble_eq_true rfl)) dX3_saves_8 ⟨Nat.le_of_ble_eq_true rfl, Nat.le_of_ble_eq_true rfl⟩).run (fun _ => ?_)
  refine lv_iload_n hx hb dX3_saves_11 rfl (lv_at hl 2 rfl) ?_
  exact vx_callv (vx_runS (As := [.int x1]) (rest := []) ⟨hx, hb, hml, hown, hts⟩ (thX3_checkFamily l hlt D T N0 x1 hbad) (va_cwS 1 hts gX3_saves_X3_checkFamily rfl rfl rfl (by decide +kernel) ⟨Nat.le_of_ble_eq_true rfl, Nat.le_of_ble_eq_true rfl⟩) (preX hK hKX rfl trivial) rfl rfl hl.1 rfl (lv_room (Nat.le_of_ble_eq_true rfl)) dX3_saves_12 ⟨Nat.le_of_ble_eq_true rfl, Nat.le_of_ble_eq_true rfl⟩) hS (fun q _ h9 => h9) (fun q h9 => h9) (fun q _ h9 => h9) (fun E ce q9 u t H1 locs1 ht hvm _ hE hz hk hS hce hcv hcl => by
    subst hE
    exact vx_out (fun z hz => absurd (hex z hz) (fun f => f)) hlocks hce hcv hcl (fun t ht _ => ⟨(), trivial, rfl, hS.F ht⟩) hS.2.2 (Nat.le_of_ble_eq_true rfl) (Nat.le_of_ble_eq_true rfl)) (fun u t H1 locs1 ht hvm hf => hf.elim)

set_option maxHeartbeats 4000000 in
set_option maxRecDepth 100000 in
theorem thX3_stretch_2 (l : Launch) (hlt : l.stackTraces = false) (D : va_G) (T : Nat → ClassId) (N0 : Nat) (ad : Nat → Nat) (F V : Nat → Nat → Int32) (sr : SRs) (C : Nat → Int32) (k1 : Nat) (x2 : Int32) (h1 : k1 < 8) (hbad : x2 < nI 2 ∨ ¬ x2 ≤ nI 10) : vx_Met l yX3_stretch wsX3_stretch ({ frames := 6, cells := 1, slots := 6, locals := 82 }) (cX D T N0 [.ref (ad 0), .int (nI k1), .int x2] (fun H => PLW D T ad F V sr C H)) (va_Qv (fun (_ : Unit) => False) (fun _ _ => True) (fun q : Nat => N0 ≤ q)) (xQ IAE (fun q : Nat => N0 ≤ q)) 1 6 (fun q : Nat => N0 ≤ q) := by
  refine vx_ofW (cc := cX3_stretch) (maxL := 5) (ret := (some .int)) (by decide) rfl ?_
  intro p e s m args below meth c s₁ B hml hex hv9
  obtain ⟨rfl, hK, hw, hKX⟩ := hv9
  have hx := B.exec
  have hb := B.bytes
  have hts := atoms_spec (ws := wsX3_stretch) B.pre
  have hown : s.vm.findClass RX3 = some m.cls := findClass_of_methodNamed B.named
  have hlocks := B.notSynchronized
  have hS : va_S (fun q : Nat => N0 ≤ q) s.heap s.heap [] := va_S.rf
  have hl := lv_entry ([.ref (ad 0), .int (nI k1), .int x2]) (n := 5) (Nat.le_of_ble_eq_true rfl)
  rw [lg_entry_eq]
  generalize (lg_sl ([.ref (ad 0), .int (nI k1), .int x2]) ++ List.replicate (5 - (lg_sl ([.ref (ad 0), .int (nI k1), .int x2])).length) Slot.unset).toArray = ls at hl ⊢
  have hl : lv_has ls 5 [(0, .ref (ad 0)), (1, .int (nI k1)), (2, .int x2)] := hl
  refine lv_aload_n hx hb dX3_stretch_0 rfl (lv_at hl 0 rfl) ?_
  refine lv_iload_n hx hb dX3_stretch_1 rfl (lv_at hl 1 rfl) ?_
  refine va_csr (ad := fun k => .ref k) (va_runV (As := [.int (nI k1)]) (rest := []) ⟨hx, hb, hml, hown, hts⟩ (conX3_setAt l D T ad F V sr C k1 (by omega)) (cwV 1 hts gX3_stretch_X3_setAt rfl rfl rfl (by decide +kernel) ⟨Nat.le_of_ble_eq_true rfl, Nat.le_of_ble_eq_true rfl⟩) (preV hK hw.o rfl hw) rfl rfl hl.1 rfl (lv_room (Nat.le_of_ble_eq_true rfl)) dX3_stretch_2 ⟨Nat.le_of_ble_eq_true rfl, Nat.le_of_ble_eq_true rfl⟩).run (fun r1 hr1 => ?_)
  subst hr1
  refine lv_astore_n (lv' := [(3, .ref (ad (4 + k1))), (0, .ref (ad 0)), (1, .int (nI k1)), (2, .int x2)]) hx hb dX3_stretch_5 rfl hl (by decide) rfl (fun ls hl => ?_)
  refine lv_iload_n hx hb dX3_stretch_6 rfl (lv_at hl 3 rfl) ?_
  refine lv_iconst (v := nI 2) hx hb dX3_stretch_7 (by decide) ?_
  refine lv_icmp_lt (tgt := 17) hx hb dX3_stretch_8 (by decide) (fun c8 => ?_) (fun c8 => ?_)
  · skip
    exact q_throwI hx hb hlt hts (by decide +kernel) hown hKX 95 "times is not 2 to 10" (by decide +kernel) hS (hl.1.trans hml.symm) dX3_stretch_17 dX3_stretch_20 dX3_stretch_21 dX3_stretch_23 dX3_stretch_26 (fun z hz => absurd (hex z hz) (fun f => f)) (Nat.le_of_ble_eq_true rfl) (Nat.le_of_ble_eq_true rfl) (Nat.le_of_ble_eq_true rfl) (Nat.le_of_ble_eq_true rfl) hlocks (fun z hz => absurd hz List.not_mem_nil) (Nat.le_of_ble_eq_true rfl) (Nat.le_of_ble_eq_true rfl)
  · skip
    refine lv_iload_n hx hb dX3_stretch_11 rfl (lv_at hl 3 rfl) ?_
    refine lv_bipush (v := nI 10) hx hb dX3_stretch_12 (by decide) ?_
    refine lv_icmp_le (tgt := 27) hx hb dX3_stretch_14 (by decide) (fun c14 => ?_) (fun c14 => ?_)
    · skip
      exact absurd hbad (fun h9 => h9.elim c8 (fun h8 => h8 c14))
    · skip
      exact q_throwI hx hb hlt hts (by decide +kernel) hown hKX 95 "times is not 2 to 10" (by decide +kernel) hS (hl.1.trans hml.symm) dX3_stretch_17 dX3_stretch_20 dX3_stretch_21 dX3_stretch_23 dX3_stretch_26 (fun z hz => absurd (hex z hz) (fun f => f)) (Nat.le_of_ble_eq_true rfl) (Nat.le_of_ble_eq_true rfl) (Nat.le_of_ble_eq_true rfl) (Nat.le_of_ble_eq_true rfl) hlocks (fun z hz => absurd hz List.not_mem_nil) (Nat.le_of_ble_eq_true rfl) (Nat.le_of_ble_eq_true rfl)

set_option maxHeartbeats 4000000 in
set_option maxRecDepth 100000 in
theorem thX3_raise_3 (l : Launch) (hlt : l.stackTraces = false) (D : va_G) (T : Nat → ClassId) (N0 : Nat) (ad : Nat → Nat) (F V : Nat → Nat → Int32) (sr : SRs) (C : Nat → Int32) (k1 a b ee : Nat) (x5 : Int32) (h1 : k1 < 5) (hab : a ≤ b) (hb9 : b ≤ 100) (he : ee ≤ 3) (hbad : x5 < (-1000) ∨ ¬ x5 ≤ nI 1000) : vx_Met l yX3_raise wsX3_raise ({ frames := 6, cells := 1, slots := 6, locals := 82 }) (cX D T N0 [.ref (ad 0), .int (nI k1), .int (nI a), .int (nI b), .int (nI ee), .int x5] (fun H => PLW D T ad F V sr C H)) (va_Qv (fun (_ : Unit) => False) (fun _ _ => True) (fun q : Nat => N0 ≤ q)) (xQ IAE (fun q : Nat => N0 ≤ q)) 1 6 (fun q : Nat => N0 ≤ q) := by
  refine vx_ofW (cc := cX3_raise) (maxL := 9) (ret := (some .int)) (by decide) rfl ?_
  intro p e s m args below meth c s₁ B hml hex hv9
  obtain ⟨rfl, hK, hw, hKX⟩ := hv9
  have hx := B.exec
  have hb := B.bytes
  have hts := atoms_spec (ws := wsX3_raise) B.pre
  have hown : s.vm.findClass RX3 = some m.cls := findClass_of_methodNamed B.named
  have hlocks := B.notSynchronized
  have hS : va_S (fun q : Nat => N0 ≤ q) s.heap s.heap [] := va_S.rf
  have hl := lv_entry ([.ref (ad 0), .int (nI k1), .int (nI a), .int (nI b), .int (nI ee), .int x5]) (n := 9) (Nat.le_of_ble_eq_true rfl)
  rw [lg_entry_eq]
  generalize (lg_sl ([.ref (ad 0), .int (nI k1), .int (nI a), .int (nI b), .int (nI ee), .int x5]) ++ List.replicate (9 - (lg_sl ([.ref (ad 0), .int (nI k1), .int (nI a), .int (nI b), .int (nI ee), .int x5])).length) Slot.unset).toArray = ls at hl ⊢
  have hl : lv_has ls 9 [(0, .ref (ad 0)), (1, .int (nI k1)), (2, .int (nI a)), (3, .int (nI b)), (4, .int (nI ee)), (5, .int x5)] := hl
  refine lv_aload_n hx hb dX3_raise_0 rfl (lv_at hl 0 rfl) ?_
  refine lv_iload_n hx hb dX3_raise_1 rfl (lv_at hl 1 rfl) ?_
  refine va_csr (ad := fun k => .ref k) (va_runV (As := [.int (nI k1)]) (rest := []) ⟨hx, hb, hml, hown, hts⟩ (conX3_functionAt l D T ad F V sr C k1 (by omega)) (cwV 1 hts gX3_raise_X3_functionAt rfl rfl rfl (by decide +kernel) ⟨Nat.le_of_ble_eq_true rfl, Nat.le_of_ble_eq_true rfl⟩) (preV hK hw.o rfl hw) rfl rfl hl.1 rfl (lv_room (Nat.le_of_ble_eq_true rfl)) dX3_raise_2 ⟨Nat.le_of_ble_eq_true rfl, Nat.le_of_ble_eq_true rfl⟩).run (fun r1 hr1 => ?_)
  subst hr1
  refine lv_astore (lv' := [(6, .ref (ad (22 + k1))), (0, .ref (ad 0)), (1, .int (nI k1)), (2, .int (nI a)), (3, .int (nI b)), (4, .int (nI ee)), (5, .int x5)]) hx hb dX3_raise_5 hl (by decide) rfl (fun ls hl => ?_)
  refine lv_iload_n hx hb dX3_raise_7 rfl (lv_at hl 3 rfl) ?_
  refine lv_iload_n hx hb dX3_raise_8 rfl (lv_at hl 4 rfl) ?_
  refine lv_iload hx hb dX3_raise_9 (lv_at hl 5 rfl) ?_
  refine va_csv (va_runS (As := [.int (nI a), .int (nI b), .int (nI ee)]) (rest := []) ⟨hx, hb, hml, hown, hts⟩ (conX3_checkSpan l D T a b ee (by omega) (by omega) (by omega)) (va_cwS 3 hts gX3_raise_X3_checkSpan rfl rfl rfl (by decide +kernel) ⟨Nat.le_of_ble_eq_true rfl, Nat.le_of_ble_eq_true rfl⟩) (preS hK trivial) rfl rfl hl.1 rfl (lv_room (Nat.le_of_ble_eq_true rfl)) dX3_raise_11 ⟨Nat.le_of_ble_eq_true rfl, Nat.le_of_ble_eq_true rfl⟩).run (fun _ => ?_)
  refine lv_iload hx hb dX3_raise_14 (lv_at hl 6 rfl) ?_
  refine lv_sipush (v := (-1000)) hx hb dX3_raise_16 (by decide) ?_
  refine lv_icmp_lt (tgt := 30) hx hb dX3_raise_19 (by decide) (fun c19 => ?_) (fun c19 => ?_)
  · skip
    exact q_throwI hx hb hlt hts (by decide +kernel) hown hKX 139 "number is not -1000 to 1000" (by decide +kernel) hS (hl.1.trans hml.symm) dX3_raise_30 dX3_raise_33 dX3_raise_34 dX3_raise_36 dX3_raise_39 (fun z hz => absurd (hex z hz) (fun f => f)) (Nat.le_of_ble_eq_true rfl) (Nat.le_of_ble_eq_true rfl) (Nat.le_of_ble_eq_true rfl) (Nat.le_of_ble_eq_true rfl) hlocks (fun z hz => absurd hz List.not_mem_nil) (Nat.le_of_ble_eq_true rfl) (Nat.le_of_ble_eq_true rfl)
  · skip
    refine lv_iload hx hb dX3_raise_22 (lv_at hl 6 rfl) ?_
    refine lv_sipush (v := nI 1000) hx hb dX3_raise_24 (by decide) ?_
    refine lv_icmp_le (tgt := 40) hx hb dX3_raise_27 (by decide) (fun c27 => ?_) (fun c27 => ?_)
    · skip
      exact absurd hbad (fun h9 => h9.elim c19 (fun h8 => h8 c27))
    · skip
      exact q_throwI hx hb hlt hts (by decide +kernel) hown hKX 139 "number is not -1000 to 1000" (by decide +kernel) hS (hl.1.trans hml.symm) dX3_raise_30 dX3_raise_33 dX3_raise_34 dX3_raise_36 dX3_raise_39 (fun z hz => absurd (hex z hz) (fun f => f)) (Nat.le_of_ble_eq_true rfl) (Nat.le_of_ble_eq_true rfl) (Nat.le_of_ble_eq_true rfl) (Nat.le_of_ble_eq_true rfl) hlocks (fun z hz => absurd hz List.not_mem_nil) (Nat.le_of_ble_eq_true rfl) (Nat.le_of_ble_eq_true rfl)

set_option maxHeartbeats 4000000 in
set_option maxRecDepth 100000 in
theorem thX3_set_3 (l : Launch) (hlt : l.stackTraces = false) (D : va_G) (T : Nat → ClassId) (N0 : Nat) (ad : Nat → Nat) (F V : Nat → Nat → Int32) (sr : SRs) (C : Nat → Int32) (k1 k2 : Nat) (x3 : Int32) (h1 : k1 < 5) (h2 : k2 < 8) (hbad : x3 < (-10000) ∨ ¬ x3 ≤ nI 10000) : vx_Met l yX3_set wsX3_set ({ frames := 6, cells := 1, slots := 6, locals := 82 }) (cX D T N0 [.ref (ad 0), .int (nI k1), .int (nI k2), .int x3] (fun H => PLW D T ad F V sr C H)) (va_Qv (fun (_ : Unit) => False) (fun _ _ => True) (fun q : Nat => N0 ≤ q)) (xQ IAE (fun q : Nat => N0 ≤ q)) 1 6 (fun q : Nat => N0 ≤ q) := by
  refine vx_ofW (cc := cX3_set) (maxL := 7) (ret := (some .int)) (by decide) rfl ?_
  intro p e s m args below meth c s₁ B hml hex hv9
  obtain ⟨rfl, hK, hw, hKX⟩ := hv9
  have hx := B.exec
  have hb := B.bytes
  have hts := atoms_spec (ws := wsX3_set) B.pre
  have hown : s.vm.findClass RX3 = some m.cls := findClass_of_methodNamed B.named
  have hlocks := B.notSynchronized
  have hS : va_S (fun q : Nat => N0 ≤ q) s.heap s.heap [] := va_S.rf
  have hl := lv_entry ([.ref (ad 0), .int (nI k1), .int (nI k2), .int x3]) (n := 7) (Nat.le_of_ble_eq_true rfl)
  rw [lg_entry_eq]
  generalize (lg_sl ([.ref (ad 0), .int (nI k1), .int (nI k2), .int x3]) ++ List.replicate (7 - (lg_sl ([.ref (ad 0), .int (nI k1), .int (nI k2), .int x3])).length) Slot.unset).toArray = ls at hl ⊢
  have hl : lv_has ls 7 [(0, .ref (ad 0)), (1, .int (nI k1)), (2, .int (nI k2)), (3, .int x3)] := hl
  refine lv_aload_n hx hb dX3_set_0 rfl (lv_at hl 0 rfl) ?_
  refine lv_iload_n hx hb dX3_set_1 rfl (lv_at hl 1 rfl) ?_
  refine va_csr (ad := fun k => .ref k) (va_runV (As := [.int (nI k1)]) (rest := []) ⟨hx, hb, hml, hown, hts⟩ (conX3_functionAt l D T ad F V sr C k1 (by omega)) (cwV 1 hts gX3_set_X3_functionAt rfl rfl rfl (by decide +kernel) ⟨Nat.le_of_ble_eq_true rfl, Nat.le_of_ble_eq_true rfl⟩) (preV hK hw.o rfl hw) rfl rfl hl.1 rfl (lv_room (Nat.le_of_ble_eq_true rfl)) dX3_set_2 ⟨Nat.le_of_ble_eq_true rfl, Nat.le_of_ble_eq_true rfl⟩).run (fun r1 hr1 => ?_)
  subst hr1
  refine lv_astore (lv' := [(4, .ref (ad (22 + k1))), (0, .ref (ad 0)), (1, .int (nI k1)), (2, .int (nI k2)), (3, .int x3)]) hx hb dX3_set_5 hl (by decide) rfl (fun ls hl => ?_)
  refine lv_aload_n hx hb dX3_set_7 rfl (lv_at hl 1 rfl) ?_
  refine lv_iload_n hx hb dX3_set_8 rfl (lv_at hl 3 rfl) ?_
  refine va_csr (ad := fun k => .ref k) (va_runV (As := [.int (nI k2)]) (rest := []) ⟨hx, hb, hml, hown, hts⟩ (conX3_setAt l D T ad F V sr C k2 (by omega)) (cwV 1 hts gX3_set_X3_setAt rfl rfl rfl (by decide +kernel) ⟨Nat.le_of_ble_eq_true rfl, Nat.le_of_ble_eq_true rfl⟩) (preV hK hw.o rfl hw) rfl rfl hl.1 rfl (lv_room (Nat.le_of_ble_eq_true rfl)) dX3_set_9 ⟨Nat.le_of_ble_eq_true rfl, Nat.le_of_ble_eq_true rfl⟩).run (fun r2 hr2 => ?_)
  subst hr2
  refine lv_astore (lv' := [(5, .ref (ad (4 + k2))), (4, .ref (ad (22 + k1))), (0, .ref (ad 0)), (1, .int (nI k1)), (2, .int (nI k2)), (3, .int x3)]) hx hb dX3_set_12 hl (by decide) rfl (fun ls hl => ?_)
  refine lv_iload_n hx hb dX3_set_14 rfl (lv_at hl 5 rfl) ?_
  refine lv_sipush (v := (-10000)) hx hb dX3_set_15 (by decide) ?_
  refine lv_icmp_lt (tgt := 28) hx hb dX3_set_18 (by decide) (fun c18 => ?_) (fun c18 => ?_)
  · skip
    exact q_throwI hx hb hlt hts (by decide +kernel) hown hKX 150 "number is not -10000 to 10000" (by decide +kernel) hS (hl.1.trans hml.symm) dX3_set_28 dX3_set_31 dX3_set_32 dX3_set_34 dX3_set_37 (fun z hz => absurd (hex z hz) (fun f => f)) (Nat.le_of_ble_eq_true rfl) (Nat.le_of_ble_eq_true rfl) (Nat.le_of_ble_eq_true rfl) (Nat.le_of_ble_eq_true rfl) hlocks (fun z hz => absurd hz List.not_mem_nil) (Nat.le_of_ble_eq_true rfl) (Nat.le_of_ble_eq_true rfl)
  · skip
    refine lv_iload_n hx hb dX3_set_21 rfl (lv_at hl 5 rfl) ?_
    refine lv_sipush (v := nI 10000) hx hb dX3_set_22 (by decide) ?_
    refine lv_icmp_le (tgt := 38) hx hb dX3_set_25 (by decide) (fun c25 => ?_) (fun c25 => ?_)
    · skip
      exact absurd hbad (fun h9 => h9.elim c18 (fun h8 => h8 c25))
    · skip
      exact q_throwI hx hb hlt hts (by decide +kernel) hown hKX 150 "number is not -10000 to 10000" (by decide +kernel) hS (hl.1.trans hml.symm) dX3_set_28 dX3_set_31 dX3_set_32 dX3_set_34 dX3_set_37 (fun z hz => absurd (hex z hz) (fun f => f)) (Nat.le_of_ble_eq_true rfl) (Nat.le_of_ble_eq_true rfl) (Nat.le_of_ble_eq_true rfl) (Nat.le_of_ble_eq_true rfl) hlocks (fun z hz => absurd hz List.not_mem_nil) (Nat.le_of_ble_eq_true rfl) (Nat.le_of_ble_eq_true rfl)

set_option maxHeartbeats 4000000 in
set_option maxRecDepth 100000 in
theorem thX3_best_2 (l : Launch) (hlt : l.stackTraces = false) (D : va_G) (T : Nat → ClassId) (N0 : Nat) (ad : Nat → Nat) (F V : Nat → Nat → Int32) (sr : SRs) (C : Nat → Int32) (k1 : Nat) (x2 : Int32) (h1 : k1 < 5) (hbad : x2 < nI 1 ∨ ¬ x2 ≤ nI 100) : vx_Met l yX3_best wsX3_best ({ frames := 6, cells := 1, slots := 6, locals := 82 }) (cX D T N0 [.ref (ad 0), .int (nI k1), .int x2] (fun H => PLW D T ad F V sr C H)) (va_Qv (fun (_ : Unit) => False) (fun _ _ => True) (fun q : Nat => N0 ≤ q)) (xQ IAE (fun q : Nat => N0 ≤ q)) 1 6 (fun q : Nat => N0 ≤ q) := by
  refine vx_ofW (cc := cX3_best) (maxL := 8) (ret := (some .int)) (by decide) rfl ?_
  intro p e s m args below meth c s₁ B hml hex hv9
  obtain ⟨rfl, hK, hw, hKX⟩ := hv9
  have hx := B.exec
  have hb := B.bytes
  have hts := atoms_spec (ws := wsX3_best) B.pre
  have hown : s.vm.findClass RX3 = some m.cls := findClass_of_methodNamed B.named
  have hlocks := B.notSynchronized
  have hS : va_S (fun q : Nat => N0 ≤ q) s.heap s.heap [] := va_S.rf
  have hl := lv_entry ([.ref (ad 0), .int (nI k1), .int x2]) (n := 8) (Nat.le_of_ble_eq_true rfl)
  rw [lg_entry_eq]
  generalize (lg_sl ([.ref (ad 0), .int (nI k1), .int x2]) ++ List.replicate (8 - (lg_sl ([.ref (ad 0), .int (nI k1), .int x2])).length) Slot.unset).toArray = ls at hl ⊢
  have hl : lv_has ls 8 [(0, .ref (ad 0)), (1, .int (nI k1)), (2, .int x2)] := hl
  refine lv_aload_n hx hb dX3_best_0 rfl (lv_at hl 0 rfl) ?_
  refine lv_iload_n hx hb dX3_best_1 rfl (lv_at hl 1 rfl) ?_
  refine va_csr (ad := fun k => .ref k) (va_runV (As := [.int (nI k1)]) (rest := []) ⟨hx, hb, hml, hown, hts⟩ (conX3_functionAt l D T ad F V sr C k1 (by omega)) (cwV 1 hts gX3_best_X3_functionAt rfl rfl rfl (by decide +kernel) ⟨Nat.le_of_ble_eq_true rfl, Nat.le_of_ble_eq_true rfl⟩) (preV hK hw.o rfl hw) rfl rfl hl.1 rfl (lv_room (Nat.le_of_ble_eq_true rfl)) dX3_best_2 ⟨Nat.le_of_ble_eq_true rfl, Nat.le_of_ble_eq_true rfl⟩).run (fun r1 hr1 => ?_)
  subst hr1
  refine lv_astore_n (lv' := [(3, .ref (ad (22 + k1))), (0, .ref (ad 0)), (1, .int (nI k1)), (2, .int x2)]) hx hb dX3_best_5 rfl hl (by decide) rfl (fun ls hl => ?_)
  refine lv_iload_n hx hb dX3_best_6 rfl (lv_at hl 3 rfl) ?_
  refine lv_iconst (v := nI 1) hx hb dX3_best_7 (by decide) ?_
  refine lv_icmp_lt (tgt := 17) hx hb dX3_best_8 (by decide) (fun c8 => ?_) (fun c8 => ?_)
  · skip
    exact q_throwI hx hb hlt hts (by decide +kernel) hown hKX 190 "n is not 1 to 100" (by decide +kernel) hS (hl.1.trans hml.symm) dX3_best_17 dX3_best_20 dX3_best_21 dX3_best_23 dX3_best_26 (fun z hz => absurd (hex z hz) (fun f => f)) (Nat.le_of_ble_eq_true rfl) (Nat.le_of_ble_eq_true rfl) (Nat.le_of_ble_eq_true rfl) (Nat.le_of_ble_eq_true rfl) hlocks (fun z hz => absurd hz List.not_mem_nil) (Nat.le_of_ble_eq_true rfl) (Nat.le_of_ble_eq_true rfl)
  · skip
    refine lv_iload_n hx hb dX3_best_11 rfl (lv_at hl 3 rfl) ?_
    refine lv_bipush (v := nI 100) hx hb dX3_best_12 (by decide) ?_
    refine lv_icmp_le (tgt := 27) hx hb dX3_best_14 (by decide) (fun c14 => ?_) (fun c14 => ?_)
    · skip
      exact absurd hbad (fun h9 => h9.elim c8 (fun h8 => h8 c14))
    · skip
      exact q_throwI hx hb hlt hts (by decide +kernel) hown hKX 190 "n is not 1 to 100" (by decide +kernel) hS (hl.1.trans hml.symm) dX3_best_17 dX3_best_20 dX3_best_21 dX3_best_23 dX3_best_26 (fun z hz => absurd (hex z hz) (fun f => f)) (Nat.le_of_ble_eq_true rfl) (Nat.le_of_ble_eq_true rfl) (Nat.le_of_ble_eq_true rfl) (Nat.le_of_ble_eq_true rfl) hlocks (fun z hz => absurd hz List.not_mem_nil) (Nat.le_of_ble_eq_true rfl) (Nat.le_of_ble_eq_true rfl)

set_option maxHeartbeats 4000000 in
set_option maxRecDepth 100000 in
theorem thX3_turn_3 (l : Launch) (hlt : l.stackTraces = false) (D : va_G) (T : Nat → ClassId) (N0 : Nat) (ad : Nat → Nat) (F V : Nat → Nat → Int32) (sr : SRs) (C : Nat → Int32) (k1 k2 : Nat) (x3 : Int32) (h1 : k1 < 5) (h2 : k2 ≤ 6) (h5 : 5 ≤ k2) (hbad : x3 < 0 ∨ ¬ x3 < nI 201) : vx_Met l yX3_turn wsX3_turn ({ frames := 6, cells := 1, slots := 6, locals := 82 }) (cX D T N0 [.ref (ad 0), .int (nI k1), .int (nI k2), .int x3] (fun H => PLW D T ad F V sr C H)) (va_Qv (fun (_ : Unit) => False) (fun _ _ => True) (fun q : Nat => N0 ≤ q)) (xQ IAE (fun q : Nat => N0 ≤ q)) 1 6 (fun q : Nat => N0 ≤ q) := by
  refine vx_ofW (cc := cX3_turn) (maxL := 5) (ret := (some .int)) (by decide) rfl ?_
  intro p e s m args below meth c s₁ B hml hex hv9
  obtain ⟨rfl, hK, hw, hKX⟩ := hv9
  have hx := B.exec
  have hb := B.bytes
  have hts := atoms_spec (ws := wsX3_turn) B.pre
  have hown : s.vm.findClass RX3 = some m.cls := findClass_of_methodNamed B.named
  have hlocks := B.notSynchronized
  have hS : va_S (fun q : Nat => N0 ≤ q) s.heap s.heap [] := va_S.rf
  have hl := lv_entry ([.ref (ad 0), .int (nI k1), .int (nI k2), .int x3]) (n := 5) (Nat.le_of_ble_eq_true rfl)
  rw [lg_entry_eq]
  generalize (lg_sl ([.ref (ad 0), .int (nI k1), .int (nI k2), .int x3]) ++ List.replicate (5 - (lg_sl ([.ref (ad 0), .int (nI k1), .int (nI k2), .int x3])).length) Slot.unset).toArray = ls at hl ⊢
  have hl : lv_has ls 5 [(0, .ref (ad 0)), (1, .int (nI k1)), (2, .int (nI k2)), (3, .int x3)] := hl
  refine lv_aload_n hx hb dX3_turn_0 rfl (lv_at hl 0 rfl) ?_
  refine lv_iload_n hx hb dX3_turn_1 rfl (lv_at hl 1 rfl) ?_
  refine va_csr (ad := fun k => .ref k) (va_runV (As := [.int (nI k1)]) (rest := []) ⟨hx, hb, hml, hown, hts⟩ (conX3_functionAt l D T ad F V sr C k1 (by omega)) (cwV 1 hts gX3_turn_X3_functionAt rfl rfl rfl (by decide +kernel) ⟨Nat.le_of_ble_eq_true rfl, Nat.le_of_ble_eq_true rfl⟩) (preV hK hw.o rfl hw) rfl rfl hl.1 rfl (lv_room (Nat.le_of_ble_eq_true rfl)) dX3_turn_2 ⟨Nat.le_of_ble_eq_true rfl, Nat.le_of_ble_eq_true rfl⟩).run (fun r1 hr1 => ?_)
  subst hr1
  refine lv_astore (lv' := [(4, .ref (ad (22 + k1))), (0, .ref (ad 0)), (1, .int (nI k1)), (2, .int (nI k2)), (3, .int x3)]) hx hb dX3_turn_5 hl (by decide) rfl (fun ls hl => ?_)
  refine lv_iload_n hx hb dX3_turn_7 rfl (lv_at hl 3 rfl) ?_
  refine lv_bipush (v := nI 6) hx hb dX3_turn_8 (by decide) ?_
  refine va_csv (va_runS (As := [.int (nI k2), .int (nI 6)]) (rest := []) ⟨hx, hb, hml, hown, hts⟩ (conX3_checkChoice l D T k2 6 (by omega) (by omega)) (va_cwS 2 hts gX3_turn_X3_checkChoice rfl rfl rfl (by decide +kernel) ⟨Nat.le_of_ble_eq_true rfl, Nat.le_of_ble_eq_true rfl⟩) (preS hK trivial) rfl rfl hl.1 rfl (lv_room (Nat.le_of_ble_eq_true rfl)) dX3_turn_10 ⟨Nat.le_of_ble_eq_true rfl, Nat.le_of_ble_eq_true rfl⟩).run (fun _ => ?_)
  refine lv_iload_n hx hb dX3_turn_13 rfl (lv_at hl 3 rfl) ?_
  refine lv_iconst (v := nI 5) hx hb dX3_turn_14 (by decide) ?_
  refine lv_icmp_lt (tgt := 39) hx hb dX3_turn_15 (by decide) (fun c15 => ?_) (fun c15 => ?_)
  · skip
    have c15 : k2 < 5 := (nc_lt (a := k2) (b := 5) (by omega) (by omega)).mp c15
    first | omega | exact absurd hbad (fun h9 => h9.elim c19 (fun h8 => h8 c26))
  · skip
    have c15 : ¬ (k2 < 5) := fun q9 => c15 ((nc_lt (a := k2) (b := 5) (by omega) (by omega)).mpr q9)
    refine lv_iload_n hx hb dX3_turn_18 rfl (lv_at hl 4 rfl) ?_
    refine lv_if_lt (tgt := 29) hx hb dX3_turn_19 (by decide) (fun c19 => ?_) (fun c19 => ?_)
    · skip
      exact q_throwI hx hb hlt hts (by decide +kernel) hown hKX 155 "n is not 0 to 200" (by decide +kernel) hS (hl.1.trans hml.symm) dX3_turn_29 dX3_turn_32 dX3_turn_33 dX3_turn_35 dX3_turn_38 (fun z hz => absurd (hex z hz) (fun f => f)) (Nat.le_of_ble_eq_true rfl) (Nat.le_of_ble_eq_true rfl) (Nat.le_of_ble_eq_true rfl) (Nat.le_of_ble_eq_true rfl) hlocks (fun z hz => absurd hz List.not_mem_nil) (Nat.le_of_ble_eq_true rfl) (Nat.le_of_ble_eq_true rfl)
    · skip
      refine lv_iload_n hx hb dX3_turn_22 rfl (lv_at hl 4 rfl) ?_
      refine lv_sipush (v := nI 201) hx hb dX3_turn_23 (by decide) ?_
      refine lv_icmp_lt (tgt := 39) hx hb dX3_turn_26 (by decide) (fun c26 => ?_) (fun c26 => ?_)
      · skip
        first | omega | exact absurd hbad (fun h9 => h9.elim c19 (fun h8 => h8 c26))
      · skip
        exact q_throwI hx hb hlt hts (by decide +kernel) hown hKX 155 "n is not 0 to 200" (by decide +kernel) hS (hl.1.trans hml.symm) dX3_turn_29 dX3_turn_32 dX3_turn_33 dX3_turn_35 dX3_turn_38 (fun z hz => absurd (hex z hz) (fun f => f)) (Nat.le_of_ble_eq_true rfl) (Nat.le_of_ble_eq_true rfl) (Nat.le_of_ble_eq_true rfl) (Nat.le_of_ble_eq_true rfl) hlocks (fun z hz => absurd hz List.not_mem_nil) (Nat.le_of_ble_eq_true rfl) (Nat.le_of_ble_eq_true rfl)

set_option maxHeartbeats 4000000 in
set_option maxRecDepth 100000 in
theorem thX3_covers_3 (l : Launch) (hlt : l.stackTraces = false) (D : va_G) (T : Nat → ClassId) (N0 : Nat) (ad : Nat → Nat) (F V : Nat → Nat → Int32) (sr : SRs) (C : Nat → Int32) (k fam : Nat) (x3 : Int32) (hk : k < 8) (hf : fam ≤ 255) (hem : emp F) : vx_Met l yX3_covers wsX3_covers ({ frames := 6, cells := 1, slots := 6, locals := 82 }) (cX D T N0 [.ref (ad 0), .int (nI fam), .int (nI k), .int x3] (fun H => PLW D T ad F V sr C H)) (va_Qv (fun (_ : Unit) => False) (fun _ _ => True) (fun q : Nat => N0 ≤ q)) (xQ IOB (fun q : Nat => N0 ≤ q)) 1 6 (fun q : Nat => N0 ≤ q) := by
  refine vx_ofW (cc := cX3_covers) (maxL := 6) (ret := (some .int)) (by decide) rfl ?_
  intro p e s m args below meth c s₁ B hml hex hv9
  obtain ⟨rfl, hK, hw, hKX⟩ := hv9
  have hx := B.exec
  have hb := B.bytes
  have hts := atoms_spec (ws := wsX3_covers) B.pre
  have hown : s.vm.findClass RX3 = some m.cls := findClass_of_methodNamed B.named
  have hlocks := B.notSynchronized
  have hS : va_S (fun q : Nat => N0 ≤ q) s.heap s.heap [] := va_S.rf
  have hl := lv_entry ([.ref (ad 0), .int (nI fam), .int (nI k), .int x3]) (n := 6) (Nat.le_of_ble_eq_true rfl)
  rw [lg_entry_eq]
  generalize (lg_sl ([.ref (ad 0), .int (nI fam), .int (nI k), .int x3]) ++ List.replicate (6 - (lg_sl ([.ref (ad 0), .int (nI fam), .int (nI k), .int x3])).length) Slot.unset).toArray = ls at hl ⊢
  have hl : lv_has ls 6 [(0, .ref (ad 0)), (1, .int (nI fam)), (2, .int (nI k)), (3, .int x3)] := hl
  refine lv_aload_n hx hb dX3_covers_0 rfl (lv_at hl 0 rfl) ?_
  refine lv_iload_n hx hb dX3_covers_1 rfl (lv_at hl 2 rfl) ?_
  refine va_csr (ad := fun k => .ref k) (va_runV (As := [.int (nI k)]) (rest := []) ⟨hx, hb, hml, hown, hts⟩ (conX3_setAt l D T ad F V sr C k (by omega)) (cwV 1 hts gX3_covers_X3_setAt rfl rfl rfl (by decide +kernel) ⟨Nat.le_of_ble_eq_true rfl, Nat.le_of_ble_eq_true rfl⟩) (preV hK hw.o rfl hw) rfl rfl hl.1 rfl (lv_room (Nat.le_of_ble_eq_true rfl)) dX3_covers_2 ⟨Nat.le_of_ble_eq_true rfl, Nat.le_of_ble_eq_true rfl⟩).run (fun r1 hr1 => ?_)
  subst hr1
  refine lv_astore (lv' := [(4, .ref (ad (4 + k))), (0, .ref (ad 0)), (1, .int (nI fam)), (2, .int (nI k)), (3, .int x3)]) hx hb dX3_covers_5 hl (by decide) rfl (fun ls hl => ?_)
  refine lv_iload_n hx hb dX3_covers_7 rfl (lv_at hl 2 rfl) ?_
  refine va_csv (va_runS (As := [.int (nI fam)]) (rest := []) ⟨hx, hb, hml, hown, hts⟩ (conX3_checkFamily l D T fam (by omega)) (va_cwS 1 hts gX3_covers_X3_checkFamily rfl rfl rfl (by decide +kernel) ⟨Nat.le_of_ble_eq_true rfl, Nat.le_of_ble_eq_true rfl⟩) (preS hK trivial) rfl rfl hl.1 rfl (lv_room (Nat.le_of_ble_eq_true rfl)) dX3_covers_8 ⟨Nat.le_of_ble_eq_true rfl, Nat.le_of_ble_eq_true rfl⟩).run (fun _ => ?_)
  refine lv_aload_n hx hb dX3_covers_11 rfl (lv_at hl 1 rfl) ?_
  refine lv_iload_n hx hb dX3_covers_12 rfl (lv_at hl 2 rfl) ?_
  refine lv_aload hx hb dX3_covers_13 (lv_at hl 0 rfl) ?_
  refine vp_callSi (va_runV (As := [.int (nI fam), .ref (ad (4 + k))]) (rest := []) ⟨hx, hb, hml, hown, hts⟩ (conX3_takeCover l D T ad F V sr C k (nI fam) (by omega) (fun j hj => hem k j (by omega) hj)) (cwV 2 hts gX3_covers_X3_takeCover rfl rfl rfl (by decide +kernel) ⟨Nat.le_of_ble_eq_true rfl, Nat.le_of_ble_eq_true rfl⟩) (preV hK hw.o rfl hw) rfl rfl hl.1 rfl (lv_room (Nat.le_of_ble_eq_true rfl)) dX3_covers_15 ⟨Nat.le_of_ble_eq_true rfl, Nat.le_of_ble_eq_true rfl⟩).run (fun r2 hr2 => ?_)
  rw [hr2]
  refine lv_istore (lv' := [(5, .int (nI 0)), (4, .ref (ad (4 + k))), (0, .ref (ad 0)), (1, .int (nI fam)), (2, .int (nI k)), (3, .int x3)]) hx hb dX3_covers_18 hl (by decide) rfl (fun ls hl => ?_)
  refine lv_iload_n hx hb dX3_covers_20 rfl (lv_at hl 5 rfl) ?_
  refine lv_if_lt (tgt := 39) hx hb dX3_covers_21 (by decide) (fun c21 => ?_) (fun c21 => ?_)
  · skip
    exact q_throwB hx hb hlt hts (by decide +kernel) hown hKX 185 "there is no such place in the COVER" (by decide +kernel) hS (hl.1.trans hml.symm) dX3_covers_39 dX3_covers_42 dX3_covers_43 dX3_covers_45 dX3_covers_48 (fun z hz => absurd (hex z hz) (fun f => f)) (Nat.le_of_ble_eq_true rfl) (Nat.le_of_ble_eq_true rfl) (Nat.le_of_ble_eq_true rfl) (Nat.le_of_ble_eq_true rfl) hlocks hS.2.2 (Nat.le_of_ble_eq_true rfl) (Nat.le_of_ble_eq_true rfl)
  · skip
    refine lv_iload_n hx hb dX3_covers_24 rfl (lv_at hl 5 rfl) ?_
    refine lv_iload hx hb dX3_covers_25 (lv_at hl 0 rfl) ?_
    refine lv_icmp_ge (tgt := 39) hx hb dX3_covers_27 (by decide) (fun c27 => ?_) (fun c27 => ?_)
    · skip
      exact q_throwB hx hb hlt hts (by decide +kernel) hown hKX 185 "there is no such place in the COVER" (by decide +kernel) hS (hl.1.trans hml.symm) dX3_covers_39 dX3_covers_42 dX3_covers_43 dX3_covers_45 dX3_covers_48 (fun z hz => absurd (hex z hz) (fun f => f)) (Nat.le_of_ble_eq_true rfl) (Nat.le_of_ble_eq_true rfl) (Nat.le_of_ble_eq_true rfl) (Nat.le_of_ble_eq_true rfl) hlocks hS.2.2 (Nat.le_of_ble_eq_true rfl) (Nat.le_of_ble_eq_true rfl)
    · skip
      exact absurd (show nI 0 ≤ x3 from Int32.not_lt.mp c21) c27

set_option maxHeartbeats 4000000 in
set_option maxRecDepth 100000 in
theorem thX3_ofSpan_2 (l : Launch) (hlt : l.stackTraces = false) (D : va_G) (T : Nat → ClassId) (N0 : Nat) (ad : Nat → Nat) (F V : Nat → Nat → Int32) (sr : SRs) (C : Nat → Int32) (k : Nat) (x2 x3 : Int32) (hk : k < 8) (hN : ∀ i : Nat, i < 37 → N0 ≤ ad i) (hsn : sr.2.2 ≤ 201) (hem : ∀ j : Nat, j < 201 → holdZ (F k) (nI j) = 0) : vx_Met l yX3_ofSpan wsX3_ofSpan ({ frames := 6, cells := 1, slots := 6, locals := 82 }) (cX D T N0 [.ref (ad 0), .int (nI k), .int x2, .int x3] (fun H => PLW D T ad F V sr C H)) (va_Qv (fun (_ : Unit) => False) (fun _ _ => True) (fun q : Nat => N0 ≤ q)) (xQ IOB (fun q : Nat => N0 ≤ q)) 1 6 (fun q : Nat => N0 ≤ q) := by
  refine vx_ofW (cc := cX3_ofSpan) (maxL := 4) (ret := (some .int)) (by decide) rfl ?_
  intro p e s m args below meth c s₁ B hml hex hv9
  obtain ⟨rfl, hK, hw, hKX⟩ := hv9
  have hx := B.exec
  have hb := B.bytes
  have hts := atoms_spec (ws := wsX3_ofSpan) B.pre
  have hown : s.vm.findClass RX3 = some m.cls := findClass_of_methodNamed B.named
  have hlocks := B.notSynchronized
  have hin3 : ∀ w ∈ wsX30, w ∈ wsX3_ofSpan := by decide +kernel
  have hA : ∀ i : Nat, i < 37 → (fun q : Nat => N0 ≤ q) (ad i) := hN
  have hS : va_S (fun q : Nat => N0 ≤ q) s.heap s.heap [] := va_S.rf
  have hl := lv_entry ([.ref (ad 0), .int (nI k), .int x2, .int x3]) (n := 4) (Nat.le_of_ble_eq_true rfl)
  rw [lg_entry_eq]
  generalize (lg_sl ([.ref (ad 0), .int (nI k), .int x2, .int x3]) ++ List.replicate (4 - (lg_sl ([.ref (ad 0), .int (nI k), .int x2, .int x3])).length) Slot.unset).toArray = ls at hl ⊢
  have hl : lv_has ls 4 [(0, .ref (ad 0)), (1, .int (nI k)), (2, .int x2), (3, .int x3)] := hl
  refine lv_aload_n hx hb dX3_ofSpan_0 rfl (lv_at hl 0 rfl) ?_
  refine q_get (v := .ref (ad 3)) hx hb hts hin3 hown hK hw.o rfl 4 (by decide) (hts (.fieldLink RX3 34 "PuddingstoneLine" "spanRow" "LPuddingstoneLine$SpanRow;") (by decide +kernel)) (fun _ h9 => h9) rfl dX3_ofSpan_1 ?_
  refine lv_aload_n hx hb dX3_ofSpan_4 rfl (lv_at hl 0 rfl) ?_
  refine lv_iload_n hx hb dX3_ofSpan_5 rfl (lv_at hl 1 rfl) ?_
  refine va_csr (ad := fun k => .ref k) (va_runV (As := [.int (nI k)]) (rest := [.ref (ad 3)]) ⟨hx, hb, hml, hown, hts⟩ (conX3_setAt l D T ad F V sr C k (by omega)) (cwV 1 hts gX3_ofSpan_X3_setAt rfl rfl rfl (by decide +kernel) ⟨Nat.le_of_ble_eq_true rfl, Nat.le_of_ble_eq_true rfl⟩) (preV hK hw.o rfl hw) rfl rfl hl.1 rfl (lv_room (Nat.le_of_ble_eq_true rfl)) dX3_ofSpan_6 ⟨Nat.le_of_ble_eq_true rfl, Nat.le_of_ble_eq_true rfl⟩).run (fun r1 hr1 => ?_)
  subst hr1
  refine lv_iconst (v := nI 1) hx hb dX3_ofSpan_9 (by decide) ?_
  refine va_callv (va_runV (As := [.ref (ad (4 + k)), .int (nI 1)]) (rest := []) ⟨hx, hb, hml, hown, hts⟩ (conX1_readRuns l D T (ad 3) (ad 34) (ad 35) sr.1 sr.2.1 sr.2.2 hw.1.sr3 hsn (ad (4 + k)) (ad (13 + k)) (F k) (nI 1) (hw.1.nsr (4 + k) (by omega) ⟨by omega, by omega, by omega⟩) (hw.1.nsr (13 + k) (by omega) ⟨by omega, by omega, by omega⟩)) (cwV 2 hts gX3_ofSpan_X1_readRuns rfl rfl rfl (by decide +kernel) ⟨Nat.le_of_ble_eq_true rfl, Nat.le_of_ble_eq_true rfl⟩) (preV hK hw.srr.1 rfl ⟨hw.srr, (hw.gs k (by omega)).1, (hw.gs k (by omega)).2.1, (hw.gs k (by omega)).2.2⟩) rfl rfl hl.1 rfl (lv_room (Nat.le_of_ble_eq_true rfl)) dX3_ofSpan_10 ⟨Nat.le_of_ble_eq_true rfl, Nat.le_of_ble_eq_true rfl⟩) hS (fun q _ h9 => (by rcases (show q = ad 3 ∨ q = ad 34 ∨ q = ad 35 from h9) with h8 | h8 | h8 <;> rw [h8]; exact hA 3 (by omega); exact hA 34 (by omega); exact hA 35 (by omega))) (fun q h9 => (by rcases (show q = ad 3 ∨ q = ad 34 ∨ q = ad 35 from h9) with h8 | h8 | h8 <;> rw [h8]; exact hA 3 (by omega); exact hA 34 (by omega); exact hA 35 (by omega))) (fun u t H1 locs1 ht hvm hw9 hB hz1 hk1 hS => ?_)
  try dsimp only at hB
  rw [ht] at hB
  replace hw := hw.setR (sr' := rrR (F k) (nI 1) sr 201) hB (fun q h1 h2 => hk1 q h1 h2)
  rw [rrR_e1 hem sr (Nat.le_refl _)] at hw
  refine lv_iload_n hx hb dX3_ofSpan_13 rfl (lv_at hl 2 rfl) ?_
  refine lv_if_lt (tgt := 28) hx hb dX3_ofSpan_14 (by decide) (fun c14 => ?_) (fun c14 => ?_)
  · skip
    exact q_throwB hx hb hlt hts (by decide +kernel) hown hKX 117 "there is no such SPAN" (by decide +kernel) hS (hl.1.trans hml.symm) dX3_ofSpan_28 dX3_ofSpan_31 dX3_ofSpan_32 dX3_ofSpan_34 dX3_ofSpan_37 (fun z hz => absurd (hex z hz) (fun f => f)) (Nat.le_of_ble_eq_true rfl) (Nat.le_of_ble_eq_true rfl) (Nat.le_of_ble_eq_true rfl) (Nat.le_of_ble_eq_true rfl) hlocks hS.2.2 (Nat.le_of_ble_eq_true rfl) (Nat.le_of_ble_eq_true rfl)
  · skip
    refine lv_iload_n hx hb dX3_ofSpan_17 rfl (lv_at hl 2 rfl) ?_
    refine lv_aload_n hx hb dX3_ofSpan_18 rfl (lv_at hl 0 rfl) ?_
    refine q_get (v := .ref (ad 3)) hx hb hts hin3 hown hK hw.o rfl 4 (by decide) (hts (.fieldLink RX3 34 "PuddingstoneLine" "spanRow" "LPuddingstoneLine$SpanRow;") (by decide +kernel)) (fun _ h9 => h9) rfl dX3_ofSpan_19 ?_
    refine vp_callSi (va_runV (As := []) (rest := [.int x2]) ⟨hx, hb, hml, hown, hts⟩ (conX1_size l D T (ad 3) (ad 34) (ad 35) (sr.1, sr.2.1, 0).1 (sr.1, sr.2.1, 0).2.1 (sr.1, sr.2.1, 0).2.2 hw.1.sr3 (Nat.zero_le _)) (cwV 0 hts gX3_ofSpan_X1_size rfl rfl rfl (by decide +kernel) ⟨Nat.le_of_ble_eq_true rfl, Nat.le_of_ble_eq_true rfl⟩) (preV hK hw.srr.1 rfl hw.srr) rfl rfl hl.1 rfl (lv_room (Nat.le_of_ble_eq_true rfl)) dX3_ofSpan_22 ⟨Nat.le_of_ble_eq_true rfl, Nat.le_of_ble_eq_true rfl⟩).run (fun r2 hr2 => ?_)
    rw [hr2]
    refine lv_icmp_lt (tgt := 38) hx hb dX3_ofSpan_25 (by decide) (fun c25 => ?_) (fun c25 => ?_)
    · skip
      exact absurd c25 (fun h9 => c14 h9)
    · skip
      exact q_throwB hx hb hlt hts (by decide +kernel) hown hKX 117 "there is no such SPAN" (by decide +kernel) hS (hl.1.trans hml.symm) dX3_ofSpan_28 dX3_ofSpan_31 dX3_ofSpan_32 dX3_ofSpan_34 dX3_ofSpan_37 (fun z hz => absurd (hex z hz) (fun f => f)) (Nat.le_of_ble_eq_true rfl) (Nat.le_of_ble_eq_true rfl) (Nat.le_of_ble_eq_true rfl) (Nat.le_of_ble_eq_true rfl) hlocks hS.2.2 (Nat.le_of_ble_eq_true rfl) (Nat.le_of_ble_eq_true rfl)
