set_option maxHeartbeats 4000000 in
set_option maxRecDepth 100000 in
theorem conX3_keepLongest (l : Launch) (D : va_G) (T : Nat → ClassId) (ad : Nat → Nat) (F V : Nat → Nat → Int32) (sr : SRs) (C : Nat → Int32) (k : Nat) (hk : k < 8) (hsn : sr.2.2 ≤ 201) : Met l yX3_keepLongest wsX3_keepLongest ({ frames := 4, cells := 0, slots := 0, locals := 86 }) (cP D T [.ref (ad 0), .ref (ad (4 + k))] (fun H => PLW D T ad F V sr C H)) (va_Qv (fun (_ : Unit) => True) (fun _ t => PLW D T ad (va_up F k (klgZ (F k) (rrR (F k) (nI 1) sr 201))) V (rrR (F k) (nI 1) sr 201) C t.heap) (PLA ad)) 0 0 (PLA ad) := by
  refine Met.ofW (cc := cX3_keepLongest) (maxL := 3) (ret := none) (by decide) rfl ?_
  intro p e s m args below meth c s₁ B hml hv9
  obtain ⟨rfl, hK, hw⟩ := hv9
  have hx := B.exec
  have hb := B.bytes
  have hr := B.returns
  have hts := atoms_spec (ws := wsX3_keepLongest) B.pre
  have hown : s.vm.findClass RX3 = some m.cls := findClass_of_methodNamed B.named
  have hlocks := B.notSynchronized
  have hin3 : ∀ w ∈ wsX30, w ∈ wsX3_keepLongest := by decide +kernel
  generalize hAe : (PLA ad) = A
  have hA : ∀ i : Nat, i < 37 → A (ad i) := fun i hi => by subst hAe; exact ⟨i, hi, rfl⟩
  have hS : va_S A s.heap s.heap [] := va_S.rf
  have hl := lv_entry ([.ref (ad 0), .ref (ad (4 + k))]) (n := 3) (Nat.le_of_ble_eq_true rfl)
  rw [lg_entry_eq]
  generalize (lg_sl ([.ref (ad 0), .ref (ad (4 + k))]) ++ List.replicate (3 - (lg_sl ([.ref (ad 0), .ref (ad (4 + k))])).length) Slot.unset).toArray = ls at hl ⊢
  have hl : lv_has ls 3 [(0, .ref (ad 0)), (1, .ref (ad (4 + k)))] := hl
  refine lv_aload_n hx hb dX3_keepLongest_0 rfl (lv_at hl 0 rfl) ?_
  refine q_get (v := .ref (ad 3)) hx hb hts hin3 hown hK hw.o rfl 4 (by decide) (hts (.fieldLink RX3 34 "PuddingstoneLine" "spanRow" "LPuddingstoneLine$SpanRow;") (by decide +kernel)) (fun _ h9 => h9) rfl dX3_keepLongest_1 ?_
  refine lv_aload_n hx hb dX3_keepLongest_4 rfl (lv_at hl 1 rfl) ?_
  refine lv_iconst (v := nI 1) hx hb dX3_keepLongest_5 (by decide) ?_
  refine va_callv (va_runV (As := [.ref (ad (4 + k)), .int (nI 1)]) (rest := []) ⟨hx, hb, hml, hown, hts⟩ (conX1_readRuns l D T (ad 3) (ad 34) (ad 35) sr.1 sr.2.1 sr.2.2 hw.1.sr3 hsn (ad (4 + k)) (ad (13 + k)) (F k) (nI 1) (hw.1.nsr (4 + k) (by omega) ⟨by omega, by omega, by omega⟩) (hw.1.nsr (13 + k) (by omega) ⟨by omega, by omega, by omega⟩)) (cwV 2 hts gX3_keepLongest_X1_readRuns rfl rfl rfl (by decide +kernel) ⟨Nat.le_of_ble_eq_true rfl, Nat.le_of_ble_eq_true rfl⟩) (preV hK hw.srr.1 rfl ⟨hw.srr, (hw.gs k (by omega)).1, (hw.gs k (by omega)).2.1, (hw.gs k (by omega)).2.2⟩) rfl rfl hl.1 rfl (lv_room (Nat.le_of_ble_eq_true rfl)) dX3_keepLongest_6 ⟨Nat.le_of_ble_eq_true rfl, Nat.le_of_ble_eq_true rfl⟩) hS (fun q _ h9 => (by rcases (show q = ad 3 ∨ q = ad 34 ∨ q = ad 35 from h9) with h8 | h8 | h8 <;> rw [h8]; exact hA 3 (by omega); exact hA 34 (by omega); exact hA 35 (by omega))) (fun q h9 => (by rcases (show q = ad 3 ∨ q = ad 34 ∨ q = ad 35 from h9) with h8 | h8 | h8 <;> rw [h8]; exact hA 3 (by omega); exact hA 34 (by omega); exact hA 35 (by omega))) (fun u t H1 locs1 ht hvm hw9 hB hz1 hk1 hS => ?_)
  try dsimp only at hB
  rw [ht] at hB
  replace hw := hw.setR (sr' := rrR (F k) (nI 1) sr 201) hB (fun q h1 h2 => hk1 q h1 h2)
  refine lv_aload_n hx hb dX3_keepLongest_9 rfl (lv_at hl 0 rfl) ?_
  refine q_get (v := .ref (ad 3)) hx hb hts hin3 hown hK hw.o rfl 4 (by decide) (hts (.fieldLink RX3 34 "PuddingstoneLine" "spanRow" "LPuddingstoneLine$SpanRow;") (by decide +kernel)) (fun _ h9 => h9) rfl dX3_keepLongest_10 ?_
  refine vp_callSi (va_runV (As := []) (rest := []) ⟨hx, hb, hml, hown, hts⟩ (conX1_longest l D T (ad 3) (ad 34) (ad 35) (rrR (F k) (nI 1) sr 201).1 (rrR (F k) (nI 1) sr 201).2.1 (rrR (F k) (nI 1) sr 201).2.2 hw.1.sr3 (rrR_le _ _ _ _)) (cwV 0 hts gX3_keepLongest_X1_longest rfl rfl rfl (by decide +kernel) ⟨Nat.le_of_ble_eq_true rfl, Nat.le_of_ble_eq_true rfl⟩) (preV hK hw.srr.1 rfl hw.srr) rfl rfl hl.1 rfl (lv_room (Nat.le_of_ble_eq_true rfl)) dX3_keepLongest_13 ⟨Nat.le_of_ble_eq_true rfl, Nat.le_of_ble_eq_true rfl⟩).run (fun r1 hr1 => ?_)
  rw [hr1]
  refine lv_istore_n (lv' := [(2, .int (lngR (rrR (F k) (nI 1) sr 201) ((rrR (F k) (nI 1) sr 201).2.2 - 1))), (0, .ref (ad 0)), (1, .ref (ad (4 + k)))]) hx hb dX3_keepLongest_16 rfl hl (by decide) rfl (fun ls hl => ?_)
  refine lv_aload_n hx hb dX3_keepLongest_17 rfl (lv_at hl 2 rfl) ?_
  refine lv_iconst (v := nI 0) hx hb dX3_keepLongest_18 (by decide) ?_
  refine lv_sipush (v := nI 200) hx hb dX3_keepLongest_19 (by decide) ?_
  refine lv_iconst (v := nI 0) hx hb dX3_keepLongest_22 (by decide) ?_
  refine va_calli (va_runV (As := [.int (nI 0), .int (nI 200), .int (nI 0)]) (rest := []) ⟨hx, hb, hml, hown, hts⟩ (conX0_fill l D T (ad (4 + k)) (ad (13 + k)) (F k) 0 201 (nI 200) (nI 0) (by omega) (by omega) (by rw [nI_toInt (by omega)]; omega) (rfl)) (cwV 3 hts gX3_keepLongest_X0_fill rfl rfl rfl (by decide +kernel) ⟨Nat.le_of_ble_eq_true rfl, Nat.le_of_ble_eq_true rfl⟩) (preV hK (hw.g k (by omega)) rfl ⟨(hw.gs k (by omega)).1, (hw.gs k (by omega)).2.1, (hw.gs k (by omega)).2.2⟩) rfl rfl hl.1 rfl (lv_room (Nat.le_of_ble_eq_true rfl)) dX3_keepLongest_23 ⟨Nat.le_of_ble_eq_true rfl, Nat.le_of_ble_eq_true rfl⟩) hS (fun q _ h9 => (by have h8 : q = ad (13 + k) := h9; rw [h8]; exact hA (13 + k) (by omega))) (fun q h9 => (by have h8 : q = ad (13 + k) := h9; rw [h8]; exact hA (13 + k) (by omega))) (fun r u t H1 locs1 ht hvm hw9 hB hz1 hk1 hS => ?_)
  try dsimp only at hB
  rw [ht] at hB
  rw [hw9]
  replace hw := hw.setF k (by omega) hB (fun q h1 h2 => hk1 q h1 h2)
  refine lv_pop hx hb dX3_keepLongest_26 rfl ?_
  refine lv_aload_n hx hb dX3_keepLongest_27 rfl (lv_at hl 2 rfl) ?_
  refine lv_aload_n hx hb dX3_keepLongest_28 rfl (lv_at hl 1 rfl) ?_
  refine q_get (v := .ref (ad 3)) hx hb hts hin3 hown hK hw.o rfl 4 (by decide) (hts (.fieldLink RX3 34 "PuddingstoneLine" "spanRow" "LPuddingstoneLine$SpanRow;") (by decide +kernel)) (fun _ h9 => h9) rfl dX3_keepLongest_29 ?_
  refine lv_iload_n hx hb dX3_keepLongest_32 rfl (lv_at hl 0 rfl) ?_
  refine vp_callSi (va_runV (As := [.int (lngR (rrR (F k) (nI 1) sr 201) ((rrR (F k) (nI 1) sr 201).2.2 - 1))]) (rest := [.ref (ad (4 + k))]) ⟨hx, hb, hml, hown, hts⟩ (conX1_first l D T (ad 3) (ad 34) (ad 35) (rrR (F k) (nI 1) sr 201).1 (rrR (F k) (nI 1) sr 201).2.1 (rrR (F k) (nI 1) sr 201).2.2 hw.1.sr3 (rrR_le _ _ _ _) (lngR (rrR (F k) (nI 1) sr 201) ((rrR (F k) (nI 1) sr 201).2.2 - 1))) (cwV 1 hts gX3_keepLongest_X1_first rfl rfl rfl (by decide +kernel) ⟨Nat.le_of_ble_eq_true rfl, Nat.le_of_ble_eq_true rfl⟩) (preV hK hw.srr.1 rfl hw.srr) rfl rfl hl.1 rfl (lv_room (Nat.le_of_ble_eq_true rfl)) dX3_keepLongest_33 ⟨Nat.le_of_ble_eq_true rfl, Nat.le_of_ble_eq_true rfl⟩).run (fun r2 hr2 => ?_)
  rw [hr2]
  have hfs9 := fsN_e (F k) (nI 1) sr (lngR (rrR (F k) (nI 1) sr 201) ((rrR (F k) (nI 1) sr 201).2.2 - 1))
  rw [hfs9.1]
  replace hfs9 := hfs9.2
  refine lv_aload_n hx hb dX3_keepLongest_36 rfl (lv_at hl 1 rfl) ?_
  refine q_get (v := .ref (ad 3)) hx hb hts hin3 hown hK hw.o rfl 4 (by decide) (hts (.fieldLink RX3 34 "PuddingstoneLine" "spanRow" "LPuddingstoneLine$SpanRow;") (by decide +kernel)) (fun _ h9 => h9) rfl dX3_keepLongest_37 ?_
  refine lv_iload_n hx hb dX3_keepLongest_40 rfl (lv_at hl 0 rfl) ?_
  refine vp_callSi (va_runV (As := [.int (lngR (rrR (F k) (nI 1) sr 201) ((rrR (F k) (nI 1) sr 201).2.2 - 1))]) (rest := [.int (nI (fsN (rrR (F k) (nI 1) sr 201) (lngR (rrR (F k) (nI 1) sr 201) ((rrR (F k) (nI 1) sr 201).2.2 - 1)))), .ref (ad (4 + k))]) ⟨hx, hb, hml, hown, hts⟩ (conX1_last l D T (ad 3) (ad 34) (ad 35) (rrR (F k) (nI 1) sr 201).1 (rrR (F k) (nI 1) sr 201).2.1 (rrR (F k) (nI 1) sr 201).2.2 hw.1.sr3 (rrR_le _ _ _ _) (lngR (rrR (F k) (nI 1) sr 201) ((rrR (F k) (nI 1) sr 201).2.2 - 1))) (cwV 1 hts gX3_keepLongest_X1_last rfl rfl rfl (by decide +kernel) ⟨Nat.le_of_ble_eq_true rfl, Nat.le_of_ble_eq_true rfl⟩) (preV hK hw.srr.1 rfl hw.srr) rfl rfl hl.1 rfl (lv_room (Nat.le_of_ble_eq_true rfl)) dX3_keepLongest_41 ⟨Nat.le_of_ble_eq_true rfl, Nat.le_of_ble_eq_true rfl⟩).run (fun r3 hr3 => ?_)
  rw [hr3]
  have hla9 := (laN_e (F k) (nI 1) sr (lngR (rrR (F k) (nI 1) sr 201) ((rrR (F k) (nI 1) sr 201).2.2 - 1))).2
  refine lv_iconst (v := nI 1) hx hb dX3_keepLongest_44 (by decide) ?_
  refine va_calli (va_runV (As := [.int (nI (fsN (rrR (F k) (nI 1) sr 201) (lngR (rrR (F k) (nI 1) sr 201) ((rrR (F k) (nI 1) sr 201).2.2 - 1)))), .int (lasR (rrR (F k) (nI 1) sr 201) (lngR (rrR (F k) (nI 1) sr 201) ((rrR (F k) (nI 1) sr 201).2.2 - 1))), .int (nI 1)]) (rest := []) ⟨hx, hb, hml, hown, hts⟩ (conX0_fill l D T (ad (4 + k)) (ad (13 + k)) ((fillS (F k) (nI 0) 0 (min 201 201 - 0)).1) (fsN (rrR (F k) (nI 1) sr 201) (lngR (rrR (F k) (nI 1) sr 201) ((rrR (F k) (nI 1) sr 201).2.2 - 1))) (laN (rrR (F k) (nI 1) sr 201) (lngR (rrR (F k) (nI 1) sr 201) ((rrR (F k) (nI 1) sr 201).2.2 - 1))) (lasR (rrR (F k) (nI 1) sr 201) (lngR (rrR (F k) (nI 1) sr 201) ((rrR (F k) (nI 1) sr 201).2.2 - 1))) (nI 1) (by omega) (by omega) (laN_e (F k) (nI 1) sr (lngR (rrR (F k) (nI 1) sr 201) ((rrR (F k) (nI 1) sr 201).2.2 - 1))).1 (rfl)) (cwV 3 hts gX3_keepLongest_X0_fill rfl rfl rfl (by decide +kernel) ⟨Nat.le_of_ble_eq_true rfl, Nat.le_of_ble_eq_true rfl⟩) (preV hK (hw.g k (by omega)) rfl ⟨(hw.gsU k (by omega)).1, (hw.gsU k (by omega)).2.1, (hw.gsU k (by omega)).2.2⟩) rfl rfl hl.1 rfl (lv_room (Nat.le_of_ble_eq_true rfl)) dX3_keepLongest_45 ⟨Nat.le_of_ble_eq_true rfl, Nat.le_of_ble_eq_true rfl⟩) hS (fun q _ h9 => (by have h8 : q = ad (13 + k) := h9; rw [h8]; exact hA (13 + k) (by omega))) (fun q h9 => (by have h8 : q = ad (13 + k) := h9; rw [h8]; exact hA (13 + k) (by omega))) (fun r u t H1 locs1 ht hvm hw9 hB hz1 hk1 hS => ?_)
  try dsimp only at hB
  rw [ht] at hB
  rw [hw9]
  replace hw := hw.setFU k (by omega) hB (fun q h1 h2 => hk1 q h1 h2)
  refine lv_pop hx hb dX3_keepLongest_48 rfl ?_
  exact W.vret hx hb hr (fun t ht _ => ⟨⟨(), rfl, trivial, by dsimp only; rw [ht]; exact hw⟩, hS.F ht⟩) hS.2.2 dX3_keepLongest_49

set_option maxHeartbeats 4000000 in
set_option maxRecDepth 100000 in
theorem conX3_fillGaps (l : Launch) (D : va_G) (T : Nat → ClassId) (ad : Nat → Nat) (F V : Nat → Nat → Int32) (sr : SRs) (C : Nat → Int32) (k : Nat) (hk : k < 8) (hsn : sr.2.2 ≤ 201) : Met l yX3_fillGaps wsX3_fillGaps ({ frames := 2, cells := 0, slots := 0, locals := 47 }) (cP D T [.ref (ad 0), .ref (ad (4 + k))] (fun H => PLW D T ad F V sr C H)) (va_Qv (fun (_ : Unit) => True) (fun _ t => PLW D T ad (va_up F k (gapZ (F k) (rrR (F k) (nI 1) sr 201))) V (rrR (F k) (nI 1) sr 201) C t.heap) (PLA ad)) 0 0 (PLA ad) := by
  refine Met.ofW (cc := cX3_fillGaps) (maxL := 2) (ret := none) (by decide) rfl ?_
  intro p e s m args below meth c s₁ B hml hv9
  obtain ⟨rfl, hK, hw⟩ := hv9
  have hx := B.exec
  have hb := B.bytes
  have hr := B.returns
  have hts := atoms_spec (ws := wsX3_fillGaps) B.pre
  have hown : s.vm.findClass RX3 = some m.cls := findClass_of_methodNamed B.named
  have hlocks := B.notSynchronized
  have hin3 : ∀ w ∈ wsX30, w ∈ wsX3_fillGaps := by decide +kernel
  generalize hAe : (PLA ad) = A
  have hA : ∀ i : Nat, i < 37 → A (ad i) := fun i hi => by subst hAe; exact ⟨i, hi, rfl⟩
  have hS : va_S A s.heap s.heap [] := va_S.rf
  have hl := lv_entry ([.ref (ad 0), .ref (ad (4 + k))]) (n := 2) (Nat.le_of_ble_eq_true rfl)
  rw [lg_entry_eq]
  generalize (lg_sl ([.ref (ad 0), .ref (ad (4 + k))]) ++ List.replicate (2 - (lg_sl ([.ref (ad 0), .ref (ad (4 + k))])).length) Slot.unset).toArray = ls at hl ⊢
  have hl : lv_has ls 2 [(0, .ref (ad 0)), (1, .ref (ad (4 + k)))] := hl
  refine lv_aload_n hx hb dX3_fillGaps_0 rfl (lv_at hl 0 rfl) ?_
  refine q_get (v := .ref (ad 3)) hx hb hts hin3 hown hK hw.o rfl 4 (by decide) (hts (.fieldLink RX3 34 "PuddingstoneLine" "spanRow" "LPuddingstoneLine$SpanRow;") (by decide +kernel)) (fun _ h9 => h9) rfl dX3_fillGaps_1 ?_
  refine lv_aload_n hx hb dX3_fillGaps_4 rfl (lv_at hl 1 rfl) ?_
  refine lv_iconst (v := nI 1) hx hb dX3_fillGaps_5 (by decide) ?_
  refine va_callv (va_runV (As := [.ref (ad (4 + k)), .int (nI 1)]) (rest := []) ⟨hx, hb, hml, hown, hts⟩ (conX1_readRuns l D T (ad 3) (ad 34) (ad 35) sr.1 sr.2.1 sr.2.2 hw.1.sr3 hsn (ad (4 + k)) (ad (13 + k)) (F k) (nI 1) (hw.1.nsr (4 + k) (by omega) ⟨by omega, by omega, by omega⟩) (hw.1.nsr (13 + k) (by omega) ⟨by omega, by omega, by omega⟩)) (cwV 2 hts gX3_fillGaps_X1_readRuns rfl rfl rfl (by decide +kernel) ⟨Nat.le_of_ble_eq_true rfl, Nat.le_of_ble_eq_true rfl⟩) (preV hK hw.srr.1 rfl ⟨hw.srr, (hw.gs k (by omega)).1, (hw.gs k (by omega)).2.1, (hw.gs k (by omega)).2.2⟩) rfl rfl hl.1 rfl (lv_room (Nat.le_of_ble_eq_true rfl)) dX3_fillGaps_6 ⟨Nat.le_of_ble_eq_true rfl, Nat.le_of_ble_eq_true rfl⟩) hS (fun q _ h9 => (by rcases (show q = ad 3 ∨ q = ad 34 ∨ q = ad 35 from h9) with h8 | h8 | h8 <;> rw [h8]; exact hA 3 (by omega); exact hA 34 (by omega); exact hA 35 (by omega))) (fun q h9 => (by rcases (show q = ad 3 ∨ q = ad 34 ∨ q = ad 35 from h9) with h8 | h8 | h8 <;> rw [h8]; exact hA 3 (by omega); exact hA 34 (by omega); exact hA 35 (by omega))) (fun u t H1 locs1 ht hvm hw9 hB hz1 hk1 hS => ?_)
  try dsimp only at hB
  rw [ht] at hB
  replace hw := hw.setR (sr' := rrR (F k) (nI 1) sr 201) hB (fun q h1 h2 => hk1 q h1 h2)
  refine lv_aload_n hx hb dX3_fillGaps_9 rfl (lv_at hl 1 rfl) ?_
  refine lv_aload_n hx hb dX3_fillGaps_10 rfl (lv_at hl 0 rfl) ?_
  refine q_get (v := .ref (ad 3)) hx hb hts hin3 hown hK hw.o rfl 4 (by decide) (hts (.fieldLink RX3 34 "PuddingstoneLine" "spanRow" "LPuddingstoneLine$SpanRow;") (by decide +kernel)) (fun _ h9 => h9) rfl dX3_fillGaps_11 ?_
  refine lv_iconst (v := nI 0) hx hb dX3_fillGaps_14 (by decide) ?_
  refine vp_callSi (va_runV (As := [.int (nI 0)]) (rest := [.ref (ad (4 + k))]) ⟨hx, hb, hml, hown, hts⟩ (conX1_first l D T (ad 3) (ad 34) (ad 35) (rrR (F k) (nI 1) sr 201).1 (rrR (F k) (nI 1) sr 201).2.1 (rrR (F k) (nI 1) sr 201).2.2 hw.1.sr3 (rrR_le _ _ _ _) (nI 0)) (cwV 1 hts gX3_fillGaps_X1_first rfl rfl rfl (by decide +kernel) ⟨Nat.le_of_ble_eq_true rfl, Nat.le_of_ble_eq_true rfl⟩) (preV hK hw.srr.1 rfl hw.srr) rfl rfl hl.1 rfl (lv_room (Nat.le_of_ble_eq_true rfl)) dX3_fillGaps_15 ⟨Nat.le_of_ble_eq_true rfl, Nat.le_of_ble_eq_true rfl⟩).run (fun r1 hr1 => ?_)
  rw [hr1]
  have hfs9 := fsN_e (F k) (nI 1) sr (nI 0)
  rw [hfs9.1]
  replace hfs9 := hfs9.2
  refine lv_aload_n hx hb dX3_fillGaps_18 rfl (lv_at hl 0 rfl) ?_
  refine q_get (v := .ref (ad 3)) hx hb hts hin3 hown hK hw.o rfl 4 (by decide) (hts (.fieldLink RX3 34 "PuddingstoneLine" "spanRow" "LPuddingstoneLine$SpanRow;") (by decide +kernel)) (fun _ h9 => h9) rfl dX3_fillGaps_19 ?_
  refine lv_aload_n hx hb dX3_fillGaps_22 rfl (lv_at hl 0 rfl) ?_
  refine q_get (v := .ref (ad 3)) hx hb hts hin3 hown hK hw.o rfl 4 (by decide) (hts (.fieldLink RX3 34 "PuddingstoneLine" "spanRow" "LPuddingstoneLine$SpanRow;") (by decide +kernel)) (fun _ h9 => h9) rfl dX3_fillGaps_23 ?_
  refine vp_callSi (va_runV (As := []) (rest := [.ref (ad 3), .int (nI (fsN (rrR (F k) (nI 1) sr 201) (nI 0))), .ref (ad (4 + k))]) ⟨hx, hb, hml, hown, hts⟩ (conX1_size l D T (ad 3) (ad 34) (ad 35) (rrR (F k) (nI 1) sr 201).1 (rrR (F k) (nI 1) sr 201).2.1 (rrR (F k) (nI 1) sr 201).2.2 hw.1.sr3 (rrR_le _ _ _ _)) (cwV 0 hts gX3_fillGaps_X1_size rfl rfl rfl (by decide +kernel) ⟨Nat.le_of_ble_eq_true rfl, Nat.le_of_ble_eq_true rfl⟩) (preV hK hw.srr.1 rfl hw.srr) rfl rfl hl.1 rfl (lv_room (Nat.le_of_ble_eq_true rfl)) dX3_fillGaps_26 ⟨Nat.le_of_ble_eq_true rfl, Nat.le_of_ble_eq_true rfl⟩).run (fun r2 hr2 => ?_)
  rw [hr2]
  refine lv_iconst (v := nI 1) hx hb dX3_fillGaps_29 (by decide) ?_
  refine lv_isub hx hb dX3_fillGaps_30 ?_
  refine vp_callSi (va_runV (As := [.int ((nI ((rrR (F k) (nI 1) sr 201).2.2)) - (nI 1))]) (rest := [.int (nI (fsN (rrR (F k) (nI 1) sr 201) (nI 0))), .ref (ad (4 + k))]) ⟨hx, hb, hml, hown, hts⟩ (conX1_last l D T (ad 3) (ad 34) (ad 35) (rrR (F k) (nI 1) sr 201).1 (rrR (F k) (nI 1) sr 201).2.1 (rrR (F k) (nI 1) sr 201).2.2 hw.1.sr3 (rrR_le _ _ _ _) ((nI ((rrR (F k) (nI 1) sr 201).2.2)) - (nI 1))) (cwV 1 hts gX3_fillGaps_X1_last rfl rfl rfl (by decide +kernel) ⟨Nat.le_of_ble_eq_true rfl, Nat.le_of_ble_eq_true rfl⟩) (preV hK hw.srr.1 rfl hw.srr) rfl rfl hl.1 rfl (lv_room (Nat.le_of_ble_eq_true rfl)) dX3_fillGaps_31 ⟨Nat.le_of_ble_eq_true rfl, Nat.le_of_ble_eq_true rfl⟩).run (fun r3 hr3 => ?_)
  rw [hr3]
  have hla9 := (laN_e (F k) (nI 1) sr ((nI ((rrR (F k) (nI 1) sr 201).2.2)) - (nI 1))).2
  refine lv_iconst (v := nI 1) hx hb dX3_fillGaps_34 (by decide) ?_
  refine va_calli (va_runV (As := [.int (nI (fsN (rrR (F k) (nI 1) sr 201) (nI 0))), .int (lasR (rrR (F k) (nI 1) sr 201) ((nI ((rrR (F k) (nI 1) sr 201).2.2)) - (nI 1))), .int (nI 1)]) (rest := []) ⟨hx, hb, hml, hown, hts⟩ (conX0_fill l D T (ad (4 + k)) (ad (13 + k)) (F k) (fsN (rrR (F k) (nI 1) sr 201) (nI 0)) (laN (rrR (F k) (nI 1) sr 201) ((nI ((rrR (F k) (nI 1) sr 201).2.2)) - (nI 1))) (lasR (rrR (F k) (nI 1) sr 201) ((nI ((rrR (F k) (nI 1) sr 201).2.2)) - (nI 1))) (nI 1) (by omega) (by omega) (laN_e (F k) (nI 1) sr ((nI ((rrR (F k) (nI 1) sr 201).2.2)) - (nI 1))).1 (rfl)) (cwV 3 hts gX3_fillGaps_X0_fill rfl rfl rfl (by decide +kernel) ⟨Nat.le_of_ble_eq_true rfl, Nat.le_of_ble_eq_true rfl⟩) (preV hK (hw.g k (by omega)) rfl ⟨(hw.gs k (by omega)).1, (hw.gs k (by omega)).2.1, (hw.gs k (by omega)).2.2⟩) rfl rfl hl.1 rfl (lv_room (Nat.le_of_ble_eq_true rfl)) dX3_fillGaps_35 ⟨Nat.le_of_ble_eq_true rfl, Nat.le_of_ble_eq_true rfl⟩) hS (fun q _ h9 => (by have h8 : q = ad (13 + k) := h9; rw [h8]; exact hA (13 + k) (by omega))) (fun q h9 => (by have h8 : q = ad (13 + k) := h9; rw [h8]; exact hA (13 + k) (by omega))) (fun r u t H1 locs1 ht hvm hw9 hB hz1 hk1 hS => ?_)
  try dsimp only at hB
  rw [ht] at hB
  rw [hw9]
  replace hw := hw.setF k (by omega) hB (fun q h1 h2 => hk1 q h1 h2)
  refine lv_pop hx hb dX3_fillGaps_38 rfl ?_
  exact W.vret hx hb hr (fun t ht _ => ⟨⟨(), rfl, trivial, by dsimp only; rw [ht]; exact hw⟩, hS.F ht⟩) hS.2.2 dX3_fillGaps_39
