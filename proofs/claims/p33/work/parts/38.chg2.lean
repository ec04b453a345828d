set_option maxHeartbeats 4000000 in
set_option maxRecDepth 100000 in
theorem conX3_changeSet (l : Launch) (D : va_G) (T : Nat → ClassId) (ad : Nat → Nat) (F V : Nat → Nat → Int32) (sr : SRs) (C : Nat → Int32) (k how : Nat) (hk : k < 8) (hho : how ≤ 7) (hsn : sr.2.2 ≤ 201) : Met l yX3_changeSet wsX3_changeSet ({ frames := 5, cells := 0, slots := 0, locals := 108 }) (cP D T [.ref (ad 0), .ref (ad (4 + k)), .int (nI how)] (fun H => PLW D T ad F V sr C H)) (va_Qv (fun (_ : Unit) => True) (fun _ t => PLW D T ad (va_up F k (chgG (F k) sr how)) V (chgS (F k) sr how) C t.heap) (PLA ad)) 0 0 (PLA ad) := by
  refine Met.ofW (cc := cX3_changeSet) (maxL := 3) (ret := none) (by decide) rfl ?_
  intro p e s m args below meth c s₁ B hml hv9
  obtain ⟨rfl, hK, hw⟩ := hv9
  have hx := B.exec
  have hb := B.bytes
  have hr := B.returns
  have hts := atoms_spec (ws := wsX3_changeSet) B.pre
  have hown : s.vm.findClass RX3 = some m.cls := findClass_of_methodNamed B.named
  have hlocks := B.notSynchronized
  generalize hAe : (PLA ad) = A
  have hA : ∀ i : Nat, i < 37 → A (ad i) := fun i hi => by subst hAe; exact ⟨i, hi, rfl⟩
  have hS : va_S A s.heap s.heap [] := va_S.rf
  have hl := lv_entry ([.ref (ad 0), .ref (ad (4 + k)), .int (nI how)]) (n := 3) (Nat.le_of_ble_eq_true rfl)
  rw [lg_entry_eq]
  generalize (lg_sl ([.ref (ad 0), .ref (ad (4 + k)), .int (nI how)]) ++ List.replicate (3 - (lg_sl ([.ref (ad 0), .ref (ad (4 + k)), .int (nI how)])).length) Slot.unset).toArray = ls at hl ⊢
  have hl : lv_has ls 3 [(0, .ref (ad 0)), (1, .ref (ad (4 + k))), (2, .int (nI how))] := hl
  refine lv_iload_n hx hb dX3_changeSet_0 rfl (lv_at hl 2 rfl) ?_
  by_cases e1_0 : how = 0
  · skip
    refine lv_tableIn (off := 43) (tgt := 44) hx hb dX3_changeSet_1 (by rw [e1_0]; decide) (by rw [e1_0]; decide) (by rw [e1_0]; rfl) (by decide) ?_
    refine lv_aload_n hx hb dX3_changeSet_44 rfl (lv_at hl 1 rfl) ?_
    refine va_callv (va_runV (As := []) (rest := []) ⟨hx, hb, hml, hown, hts⟩ (conX0_invert l D T (ad (4 + k)) (ad (13 + k)) (F k)) (cwV 0 hts gX3_changeSet_X0_invert rfl rfl rfl (by decide +kernel) ⟨Nat.le_of_ble_eq_true rfl, Nat.le_of_ble_eq_true rfl⟩) (preV hK (hw.g k (by omega)) rfl ⟨(hw.gs k (by omega)).1, (hw.gs k (by omega)).2.1, (hw.gs k (by omega)).2.2⟩) rfl rfl hl.1 rfl (lv_room (Nat.le_of_ble_eq_true rfl)) dX3_changeSet_45 ⟨Nat.le_of_ble_eq_true rfl, Nat.le_of_ble_eq_true rfl⟩) hS (fun q _ h9 => (by have h8 : q = ad (13 + k) := h9; rw [h8]; exact hA (13 + k) (by omega))) (fun q h9 => (by have h8 : q = ad (13 + k) := h9; rw [h8]; exact hA (13 + k) (by omega))) (fun u t H1 locs1 ht hvm hw9 hB hz1 hk1 hS => ?_)
    try dsimp only at hB
    rw [ht] at hB
    replace hw := hw.setF k (by omega) hB (fun q h1 h2 => hk1 q h1 h2)
    refine lv_goto (tgt := 105) hx hb dX3_changeSet_48 (by decide) ?_
    exact W.vret hx hb hr (fun t ht _ => ⟨⟨(), rfl, trivial, by dsimp only; rw [ht]; exact (by rw [chgG, chgS, if_pos e1_0, if_neg (by omega), if_neg (by omega)]; exact hw)⟩, hS.F ht⟩) hS.2.2 dX3_changeSet_105
  by_cases e1_1 : how = 1
  · skip
    refine lv_tableIn (off := 50) (tgt := 51) hx hb dX3_changeSet_1 (by rw [e1_1]; decide) (by rw [e1_1]; decide) (by rw [e1_1]; rfl) (by decide) ?_
    refine lv_aload_n hx hb dX3_changeSet_51 rfl (lv_at hl 1 rfl) ?_
    refine va_callv (va_runV (As := []) (rest := []) ⟨hx, hb, hml, hown, hts⟩ (conX0_dropEdgePoints l D T (ad (4 + k)) (ad (13 + k)) (F k)) (cwV 0 hts gX3_changeSet_X0_dropEdgePoints rfl rfl rfl (by decide +kernel) ⟨Nat.le_of_ble_eq_true rfl, Nat.le_of_ble_eq_true rfl⟩) (preV hK (hw.g k (by omega)) rfl ⟨(hw.gs k (by omega)).1, (hw.gs k (by omega)).2.1, (hw.gs k (by omega)).2.2⟩) rfl rfl hl.1 rfl (lv_room (Nat.le_of_ble_eq_true rfl)) dX3_changeSet_52 ⟨Nat.le_of_ble_eq_true rfl, Nat.le_of_ble_eq_true rfl⟩) hS (fun q _ h9 => (by have h8 : q = ad (13 + k) := h9; rw [h8]; exact hA (13 + k) (by omega))) (fun q h9 => (by have h8 : q = ad (13 + k) := h9; rw [h8]; exact hA (13 + k) (by omega))) (fun u t H1 locs1 ht hvm hw9 hB hz1 hk1 hS => ?_)
    try dsimp only at hB
    rw [ht] at hB
    replace hw := hw.setF k (by omega) hB (fun q h1 h2 => hk1 q h1 h2)
    refine lv_goto (tgt := 105) hx hb dX3_changeSet_55 (by decide) ?_
    exact W.vret hx hb hr (fun t ht _ => ⟨⟨(), rfl, trivial, by dsimp only; rw [ht]; exact (by rw [chgG, chgS, if_neg (by omega), if_pos e1_1, if_neg (by omega), if_neg (by omega)]; exact hw)⟩, hS.F ht⟩) hS.2.2 dX3_changeSet_105
  by_cases e1_2 : how = 2
  · skip
    refine lv_tableIn (off := 57) (tgt := 58) hx hb dX3_changeSet_1 (by rw [e1_2]; decide) (by rw [e1_2]; decide) (by rw [e1_2]; rfl) (by decide) ?_
    refine lv_aload_n hx hb dX3_changeSet_58 rfl (lv_at hl 1 rfl) ?_
    refine va_callv (va_runV (As := []) (rest := []) ⟨hx, hb, hml, hown, hts⟩ (conX0_addEdgePoints l D T (ad (4 + k)) (ad (13 + k)) (F k)) (cwV 0 hts gX3_changeSet_X0_addEdgePoints rfl rfl rfl (by decide +kernel) ⟨Nat.le_of_ble_eq_true rfl, Nat.le_of_ble_eq_true rfl⟩) (preV hK (hw.g k (by omega)) rfl ⟨(hw.gs k (by omega)).1, (hw.gs k (by omega)).2.1, (hw.gs k (by omega)).2.2⟩) rfl rfl hl.1 rfl (lv_room (Nat.le_of_ble_eq_true rfl)) dX3_changeSet_59 ⟨Nat.le_of_ble_eq_true rfl, Nat.le_of_ble_eq_true rfl⟩) hS (fun q _ h9 => (by have h8 : q = ad (13 + k) := h9; rw [h8]; exact hA (13 + k) (by omega))) (fun q h9 => (by have h8 : q = ad (13 + k) := h9; rw [h8]; exact hA (13 + k) (by omega))) (fun u t H1 locs1 ht hvm hw9 hB hz1 hk1 hS => ?_)
    try dsimp only at hB
    rw [ht] at hB
    replace hw := hw.setF k (by omega) hB (fun q h1 h2 => hk1 q h1 h2)
    refine lv_goto (tgt := 105) hx hb dX3_changeSet_62 (by decide) ?_
    exact W.vret hx hb hr (fun t ht _ => ⟨⟨(), rfl, trivial, by dsimp only; rw [ht]; exact (by rw [chgG, chgS, if_neg (by omega), if_neg (by omega), if_pos e1_2, if_neg (by omega), if_neg (by omega)]; exact hw)⟩, hS.F ht⟩) hS.2.2 dX3_changeSet_105
  by_cases e1_3 : how = 3
  · skip
    refine lv_tableIn (off := 64) (tgt := 65) hx hb dX3_changeSet_1 (by rw [e1_3]; decide) (by rw [e1_3]; decide) (by rw [e1_3]; rfl) (by decide) ?_
    refine lv_aload_n hx hb dX3_changeSet_65 rfl (lv_at hl 1 rfl) ?_
    refine va_callv (va_runV (As := []) (rest := []) ⟨hx, hb, hml, hown, hts⟩ (conX0_keepLonePoints l D T (ad (4 + k)) (ad (13 + k)) (F k)) (cwV 0 hts gX3_changeSet_X0_keepLonePoints rfl rfl rfl (by decide +kernel) ⟨Nat.le_of_ble_eq_true rfl, Nat.le_of_ble_eq_true rfl⟩) (preV hK (hw.g k (by omega)) rfl ⟨(hw.gs k (by omega)).1, (hw.gs k (by omega)).2.1, (hw.gs k (by omega)).2.2⟩) rfl rfl hl.1 rfl (lv_room (Nat.le_of_ble_eq_true rfl)) dX3_changeSet_66 ⟨Nat.le_of_ble_eq_true rfl, Nat.le_of_ble_eq_true rfl⟩) hS (fun q _ h9 => (by have h8 : q = ad (13 + k) := h9; rw [h8]; exact hA (13 + k) (by omega))) (fun q h9 => (by have h8 : q = ad (13 + k) := h9; rw [h8]; exact hA (13 + k) (by omega))) (fun u t H1 locs1 ht hvm hw9 hB hz1 hk1 hS => ?_)
    try dsimp only at hB
    rw [ht] at hB
    replace hw := hw.setF k (by omega) hB (fun q h1 h2 => hk1 q h1 h2)
    refine lv_goto (tgt := 105) hx hb dX3_changeSet_69 (by decide) ?_
    exact W.vret hx hb hr (fun t ht _ => ⟨⟨(), rfl, trivial, by dsimp only; rw [ht]; exact (by rw [chgG, chgS, if_neg (by omega), if_neg (by omega), if_neg (by omega), if_pos e1_3, if_neg (by omega), if_neg (by omega)]; exact hw)⟩, hS.F ht⟩) hS.2.2 dX3_changeSet_105
  by_cases e1_4 : how = 4
  · skip
    refine lv_tableIn (off := 71) (tgt := 72) hx hb dX3_changeSet_1 (by rw [e1_4]; decide) (by rw [e1_4]; decide) (by rw [e1_4]; rfl) (by decide) ?_
    refine lv_aload_n hx hb dX3_changeSet_72 rfl (lv_at hl 1 rfl) ?_
    refine va_callv (va_runV (As := []) (rest := []) ⟨hx, hb, hml, hown, hts⟩ (conX0_mirror l D T (ad (4 + k)) (ad (13 + k)) (F k)) (cwV 0 hts gX3_changeSet_X0_mirror rfl rfl rfl (by decide +kernel) ⟨Nat.le_of_ble_eq_true rfl, Nat.le_of_ble_eq_true rfl⟩) (preV hK (hw.g k (by omega)) rfl ⟨(hw.gs k (by omega)).1, (hw.gs k (by omega)).2.1, (hw.gs k (by omega)).2.2⟩) rfl rfl hl.1 rfl (lv_room (Nat.le_of_ble_eq_true rfl)) dX3_changeSet_73 ⟨Nat.le_of_ble_eq_true rfl, Nat.le_of_ble_eq_true rfl⟩) hS (fun q _ h9 => (by have h8 : q = ad (13 + k) := h9; rw [h8]; exact hA (13 + k) (by omega))) (fun q h9 => (by have h8 : q = ad (13 + k) := h9; rw [h8]; exact hA (13 + k) (by omega))) (fun u t H1 locs1 ht hvm hw9 hB hz1 hk1 hS => ?_)
    try dsimp only at hB
    rw [ht] at hB
    replace hw := hw.setF k (by omega) hB (fun q h1 h2 => hk1 q h1 h2)
    refine lv_goto (tgt := 105) hx hb dX3_changeSet_76 (by decide) ?_
    exact W.vret hx hb hr (fun t ht _ => ⟨⟨(), rfl, trivial, by dsimp only; rw [ht]; exact (by rw [chgG, chgS, if_neg (by omega), if_neg (by omega), if_neg (by omega), if_neg (by omega), if_pos e1_4, if_neg (by omega), if_neg (by omega)]; exact hw)⟩, hS.F ht⟩) hS.2.2 dX3_changeSet_105
  by_cases e1_5 : how = 5
  · skip
    refine lv_tableIn (off := 78) (tgt := 79) hx hb dX3_changeSet_1 (by rw [e1_5]; decide) (by rw [e1_5]; decide) (by rw [e1_5]; rfl) (by decide) ?_
    refine lv_aload_n hx hb dX3_changeSet_79 rfl (lv_at hl 0 rfl) ?_
    refine lv_aload_n hx hb dX3_changeSet_80 rfl (lv_at hl 1 rfl) ?_
    refine va_callv (va_runV (As := [.ref (ad (4 + k))]) (rest := []) ⟨hx, hb, hml, hown, hts⟩ (conX3_keepLongest l D T ad F V sr C k (by omega) hsn) (cwV 1 hts gX3_changeSet_X3_keepLongest rfl rfl rfl (by decide +kernel) ⟨Nat.le_of_ble_eq_true rfl, Nat.le_of_ble_eq_true rfl⟩) (preV hK hw.o rfl hw) rfl rfl hl.1 rfl (lv_room (Nat.le_of_ble_eq_true rfl)) dX3_changeSet_81 ⟨Nat.le_of_ble_eq_true rfl, Nat.le_of_ble_eq_true rfl⟩) hS (fun q _ h9 => (by obtain ⟨i8, h7, h8⟩ := (show PLA ad q from h9); rw [h8]; exact hA i8 h7)) (fun q h9 => (by obtain ⟨i8, h7, h8⟩ := (show PLA ad q from h9); rw [h8]; exact hA i8 h7)) (fun u t H1 locs1 ht hvm hw9 hB hz1 hk1 hS => ?_)
    try dsimp only at hB
    rw [ht] at hB
    replace hw := hB
    refine lv_goto (tgt := 105) hx hb dX3_changeSet_84 (by decide) ?_
    exact W.vret hx hb hr (fun t ht _ => ⟨⟨(), rfl, trivial, by dsimp only; rw [ht]; exact (by rw [chgG, chgS, if_neg (by omega), if_neg (by omega), if_neg (by omega), if_neg (by omega), if_neg (by omega), if_pos e1_5, if_pos e1_5]; exact hw)⟩, hS.F ht⟩) hS.2.2 dX3_changeSet_105
  by_cases e1_6 : how = 6
  · skip
    refine lv_tableIn (off := 86) (tgt := 87) hx hb dX3_changeSet_1 (by rw [e1_6]; decide) (by rw [e1_6]; decide) (by rw [e1_6]; rfl) (by decide) ?_
    refine lv_aload_n hx hb dX3_changeSet_87 rfl (lv_at hl 0 rfl) ?_
    refine lv_aload_n hx hb dX3_changeSet_88 rfl (lv_at hl 1 rfl) ?_
    refine va_callv (va_runV (As := [.ref (ad (4 + k))]) (rest := []) ⟨hx, hb, hml, hown, hts⟩ (conX3_fillGaps l D T ad F V sr C k (by omega) hsn) (cwV 1 hts gX3_changeSet_X3_fillGaps rfl rfl rfl (by decide +kernel) ⟨Nat.le_of_ble_eq_true rfl, Nat.le_of_ble_eq_true rfl⟩) (preV hK hw.o rfl hw) rfl rfl hl.1 rfl (lv_room (Nat.le_of_ble_eq_true rfl)) dX3_changeSet_89 ⟨Nat.le_of_ble_eq_true rfl, Nat.le_of_ble_eq_true rfl⟩) hS (fun q _ h9 => (by obtain ⟨i8, h7, h8⟩ := (show PLA ad q from h9); rw [h8]; exact hA i8 h7)) (fun q h9 => (by obtain ⟨i8, h7, h8⟩ := (show PLA ad q from h9); rw [h8]; exact hA i8 h7)) (fun u t H1 locs1 ht hvm hw9 hB hz1 hk1 hS => ?_)
    try dsimp only at hB
    rw [ht] at hB
    replace hw := hB
    refine lv_goto (tgt := 105) hx hb dX3_changeSet_92 (by decide) ?_
    exact W.vret hx hb hr (fun t ht _ => ⟨⟨(), rfl, trivial, by dsimp only; rw [ht]; exact (by rw [chgG, chgS, if_neg (by omega), if_neg (by omega), if_neg (by omega), if_neg (by omega), if_neg (by omega), if_neg (by omega), if_pos e1_6, if_neg (by omega), if_pos e1_6]; exact hw)⟩, hS.F ht⟩) hS.2.2 dX3_changeSet_105
  refine lv_tableOut (tgt := 95) hx hb dX3_changeSet_1 (Or.inr (by rw [nI_toInt (by omega)]; omega)) (by decide) ?_
  refine lv_aload_n hx hb dX3_changeSet_95 rfl (lv_at hl 1 rfl) ?_
  refine lv_iconst (v := nI 0) hx hb dX3_changeSet_96 (by decide) ?_
  refine lv_sipush (v := nI 200) hx hb dX3_changeSet_97 (by decide) ?_
  refine lv_iconst (v := nI 0) hx hb dX3_changeSet_100 (by decide) ?_
  refine va_calli (va_runV (As := [.int (nI 0), .int (nI 200), .int (nI 0)]) (rest := []) ⟨hx, hb, hml, hown, hts⟩ (conX0_fill l D T (ad (4 + k)) (ad (13 + k)) (F k) 0 201 (nI 200) (nI 0) (by omega) (by omega) (by rw [nI_toInt (by omega)]; omega) (rfl)) (cwV 3 hts gX3_changeSet_X0_fill rfl rfl rfl (by decide +kernel) ⟨Nat.le_of_ble_eq_true rfl, Nat.le_of_ble_eq_true rfl⟩) (preV hK (hw.g k (by omega)) rfl ⟨(hw.gs k (by omega)).1, (hw.gs k (by omega)).2.1, (hw.gs k (by omega)).2.2⟩) rfl rfl hl.1 rfl (lv_room (Nat.le_of_ble_eq_true rfl)) dX3_changeSet_101 ⟨Nat.le_of_ble_eq_true rfl, Nat.le_of_ble_eq_true rfl⟩) hS (fun q _ h9 => (by have h8 : q = ad (13 + k) := h9; rw [h8]; exact hA (13 + k) (by omega))) (fun q h9 => (by have h8 : q = ad (13 + k) := h9; rw [h8]; exact hA (13 + k) (by omega))) (fun r u t H1 locs1 ht hvm hw9 hB hz1 hk1 hS => ?_)
  try dsimp only at hB
  rw [ht] at hB
  rw [hw9]
  replace hw := hw.setF k (by omega) hB (fun q h1 h2 => hk1 q h1 h2)
  refine lv_pop hx hb dX3_changeSet_104 rfl ?_
  exact W.vret hx hb hr (fun t ht _ => ⟨⟨(), rfl, trivial, by dsimp only; rw [ht]; exact (by rw [chgG, chgS, if_neg e1_0, if_neg e1_1, if_neg e1_2, if_neg e1_3, if_neg e1_4, if_neg e1_5, if_neg e1_6, if_neg (by omega), if_neg (by omega)]; exact hw)⟩, hS.F ht⟩) hS.2.2 dX3_changeSet_105

set_option maxHeartbeats 4000000 in
set_option maxRecDepth 100000 in
theorem conX3_change (l : Launch) (D : va_G) (T : Nat → ClassId) (ad : Nat → Nat) (F V : Nat → Nat → Int32) (sr : SRs) (C : Nat → Int32) (k how : Nat) (hk : k < 8) (hho : how ≤ 7) (hsn : sr.2.2 ≤ 201) : Met l yX3_change wsX3_change ({ frames := 6, cells := 0, slots := 0, locals := 130 }) (cP D T [.ref (ad 0), .int (nI k), .int (nI how)] (fun H => PLW D T ad F V sr C H)) (va_Qi (fun (r : Int32) (_ : Unit) => r = cntZ (chgG (F k) sr how) 201) (fun _ t => PLW D T ad (va_up F k (chgG (F k) sr how)) V (chgS (F k) sr how) C t.heap) (PLA ad)) 0 0 (PLA ad) := by
  refine Met.ofW (cc := cX3_change) (maxL := 4) (ret := (some .int)) (by decide) rfl ?_
  intro p e s m args below meth c s₁ B hml hv9
  obtain ⟨rfl, hK, hw⟩ := hv9
  have hx := B.exec
  have hb := B.bytes
  have hr := B.returns
  have hts := atoms_spec (ws := wsX3_change) B.pre
  have hown : s.vm.findClass RX3 = some m.cls := findClass_of_methodNamed B.named
  have hlocks := B.notSynchronized
  generalize hAe : (PLA ad) = A
  have hA : ∀ i : Nat, i < 37 → A (ad i) := fun i hi => by subst hAe; exact ⟨i, hi, rfl⟩
  have hS : va_S A s.heap s.heap [] := va_S.rf
  have hl := lv_entry ([.ref (ad 0), .int (nI k), .int (nI how)]) (n := 4) (Nat.le_of_ble_eq_true rfl)
  rw [lg_entry_eq]
  generalize (lg_sl ([.ref (ad 0), .int (nI k), .int (nI how)]) ++ List.replicate (4 - (lg_sl ([.ref (ad 0), .int (nI k), .int (nI how)])).length) Slot.unset).toArray = ls at hl ⊢
  have hl : lv_has ls 4 [(0, .ref (ad 0)), (1, .int (nI k)), (2, .int (nI how))] := hl
  refine lv_aload_n hx hb dX3_change_0 rfl (lv_at hl 0 rfl) ?_
  refine lv_iload_n hx hb dX3_change_1 rfl (lv_at hl 1 rfl) ?_
  refine va_csr (ad := fun k => .ref k) (va_runV (As := [.int (nI k)]) (rest := []) ⟨hx, hb, hml, hown, hts⟩ (conX3_setAt l D T ad F V sr C k (by omega)) (cwV 1 hts gX3_change_X3_setAt rfl rfl rfl (by decide +kernel) ⟨Nat.le_of_ble_eq_true rfl, Nat.le_of_ble_eq_true rfl⟩) (preV hK hw.o rfl hw) rfl rfl hl.1 rfl (lv_room (Nat.le_of_ble_eq_true rfl)) dX3_change_2 ⟨Nat.le_of_ble_eq_true rfl, Nat.le_of_ble_eq_true rfl⟩).run (fun r1 hr1 => ?_)
  subst hr1
  refine lv_astore_n (lv' := [(3, .ref (ad (4 + k))), (0, .ref (ad 0)), (1, .int (nI k)), (2, .int (nI how))]) hx hb dX3_change_5 rfl hl (by decide) rfl (fun ls hl => ?_)
  refine lv_iload_n hx hb dX3_change_6 rfl (lv_at hl 3 rfl) ?_
  refine lv_bipush (v := nI 7) hx hb dX3_change_7 (by decide) ?_
  refine va_csv (va_runS (As := [.int (nI how), .int (nI 7)]) (rest := []) ⟨hx, hb, hml, hown, hts⟩ (conX3_checkChoice l D T how 7 (by omega) (by omega)) (va_cwS 2 hts gX3_change_X3_checkChoice rfl rfl rfl (by decide +kernel) ⟨Nat.le_of_ble_eq_true rfl, Nat.le_of_ble_eq_true rfl⟩) (preS hK trivial) rfl rfl hl.1 rfl (lv_room (Nat.le_of_ble_eq_true rfl)) dX3_change_9 ⟨Nat.le_of_ble_eq_true rfl, Nat.le_of_ble_eq_true rfl⟩).run (fun _ => ?_)
  refine lv_aload_n hx hb dX3_change_12 rfl (lv_at hl 1 rfl) ?_
  refine lv_aload_n hx hb dX3_change_13 rfl (lv_at hl 0 rfl) ?_
  refine lv_iload_n hx hb dX3_change_14 rfl (lv_at hl 3 rfl) ?_
  refine va_callv (va_runV (As := [.ref (ad (4 + k)), .int (nI how)]) (rest := []) ⟨hx, hb, hml, hown, hts⟩ (conX3_changeSet l D T ad F V sr C k how (by omega) (by omega) hsn) (cwV 2 hts gX3_change_X3_changeSet rfl rfl rfl (by decide +kernel) ⟨Nat.le_of_ble_eq_true rfl, Nat.le_of_ble_eq_true rfl⟩) (preV hK hw.o rfl hw) rfl rfl hl.1 rfl (lv_room (Nat.le_of_ble_eq_true rfl)) dX3_change_15 ⟨Nat.le_of_ble_eq_true rfl, Nat.le_of_ble_eq_true rfl⟩) hS (fun q _ h9 => (by obtain ⟨i8, h7, h8⟩ := (show PLA ad q from h9); rw [h8]; exact hA i8 h7)) (fun q h9 => (by obtain ⟨i8, h7, h8⟩ := (show PLA ad q from h9); rw [h8]; exact hA i8 h7)) (fun u t H1 locs1 ht hvm hw9 hB hz1 hk1 hS => ?_)
  try dsimp only at hB
  rw [ht] at hB
  replace hw := hB
  refine lv_aload_n hx hb dX3_change_18 rfl (lv_at hl 0 rfl) ?_
  refine vp_callSi (va_runV (As := []) (rest := []) ⟨hx, hb, hml, hown, hts⟩ (conX0_count l D T (ad (4 + k)) (ad (13 + k)) (chgG (F k) sr how)) (cwV 0 hts gX3_change_X0_count rfl rfl rfl (by decide +kernel) ⟨Nat.le_of_ble_eq_true rfl, Nat.le_of_ble_eq_true rfl⟩) (preV hK (hw.g k (by omega)) rfl ⟨(hw.gsU k (by omega)).1, (hw.gsU k (by omega)).2.1, (hw.gsU k (by omega)).2.2⟩) rfl rfl hl.1 rfl (lv_room (Nat.le_of_ble_eq_true rfl)) dX3_change_19 ⟨Nat.le_of_ble_eq_true rfl, Nat.le_of_ble_eq_true rfl⟩).run (fun r2 hr2 => ?_)
  rw [hr2]
  exact W.iret (v := cntZ (chgG (F k) sr how) 201) hx hb hr (fun t ht _ => ⟨⟨cntZ (chgG (F k) sr how) 201, (), rfl, by rfl, by dsimp only; rw [ht]; exact hw⟩, hS.F ht⟩) hS.2.2 dX3_change_22

set_option maxHeartbeats 4000000 in
set_option maxRecDepth 100000 in
theorem conX3_putStretched (l : Launch) (D : va_G) (T : Nat → ClassId) (ad : Nat → Nat) (F V : Nat → Nat → Int32) (sr : SRs) (C : Nat → Int32) (k g tt : Nat) (hk : k < 9) (hg : g < 201) (h1 : 2 ≤ tt) (h2 : tt ≤ 10) : Met l yX3_putStretched wsX3_putStretched ({ frames := 2, cells := 0, slots := 0, locals := 47 }) (cP D T [.ref (ad (4 + k)), .int (nI g), .int (nI tt)] (fun H => PLW D T ad F V sr C H)) (va_Qv (fun (_ : Unit) => True) (fun _ t => PLW D T ad (va_up F k (pstZ (F k) g tt)) V sr C t.heap) (PLA ad)) 0 0 (PLA ad) := by
  refine Met.ofW (cc := cX3_putStretched) (maxL := 3) (ret := none) (by decide) rfl ?_
  intro p e s m args below meth c s₁ B hml hv9
  obtain ⟨rfl, hK, hw⟩ := hv9
  have hx := B.exec
  have hb := B.bytes
  have hr := B.returns
  have hts := atoms_spec (ws := wsX3_putStretched) B.pre
  have hown : s.vm.findClass RX3 = some m.cls := findClass_of_methodNamed B.named
  have hlocks := B.notSynchronized
  generalize hAe : (PLA ad) = A
  have hA : ∀ i : Nat, i < 37 → A (ad i) := fun i hi => by subst hAe; exact ⟨i, hi, rfl⟩
  have hS : va_S A s.heap s.heap [] := va_S.rf
  have hl := lv_entry ([.ref (ad (4 + k)), .int (nI g), .int (nI tt)]) (n := 3) (Nat.le_of_ble_eq_true rfl)
  rw [lg_entry_eq]
  generalize (lg_sl ([.ref (ad (4 + k)), .int (nI g), .int (nI tt)]) ++ List.replicate (3 - (lg_sl ([.ref (ad (4 + k)), .int (nI g), .int (nI tt)])).length) Slot.unset).toArray = ls at hl ⊢
  have hl : lv_has ls 3 [(0, .ref (ad (4 + k))), (1, .int (nI g)), (2, .int (nI tt))] := hl
  have hm1 : (g - 1) * tt ≤ 2000 := Nat.le_trans (Nat.mul_le_mul (show g - 1 ≤ 200 by omega) h2) (by decide)
  have hm2 : (g + 1) * tt ≤ 2010 := Nat.le_trans (Nat.mul_le_mul (show g + 1 ≤ 201 by omega) h2) (by decide)
  have hm3 : 2 ≤ (g + 1) * tt := Nat.le_trans (show 2 ≤ 1 * 2 by decide) (Nat.mul_le_mul (show 1 ≤ g + 1 by omega) h1)
  refine lv_iload_n hx hb dX3_putStretched_0 rfl (lv_at hl 1 rfl) ?_
  refine vp_callSi (va_runS (As := [.int (nI g)]) (rest := []) ⟨hx, hb, hml, hown, hts⟩ (conX3_isPoint l D T (nI g)) (va_cwS 1 hts gX3_putStretched_X3_isPoint rfl rfl rfl (by decide +kernel) ⟨Nat.le_of_ble_eq_true rfl, Nat.le_of_ble_eq_true rfl⟩) (preS hK trivial) rfl rfl hl.1 rfl (lv_room (Nat.le_of_ble_eq_true rfl)) dX3_putStretched_1 ⟨Nat.le_of_ble_eq_true rfl, Nat.le_of_ble_eq_true rfl⟩).run (fun r1 hr1 => ?_)
  rw [hr1]
  refine lv_if_eq (tgt := 18) hx hb dX3_putStretched_4 (by decide) (fun c4 => ?_) (fun c4 => ?_)
  · skip
    have c4 : g % 2 = 1 := (pt_odd (by omega)).mp c4
    refine lv_aload_n hx hb dX3_putStretched_18 rfl (lv_at hl 0 rfl) ?_
    refine lv_iload_n hx hb dX3_putStretched_19 rfl (lv_at hl 1 rfl) ?_
    refine lv_iconst (v := nI 1) hx hb dX3_putStretched_20 (by decide) ?_
    refine lv_isub hx hb dX3_putStretched_21 ?_
    rw [pk_sub (a := g) (b := 1) (by omega)]
    refine lv_iload_n hx hb dX3_putStretched_22 rfl (lv_at hl 2 rfl) ?_
    refine lv_imul hx hb dX3_putStretched_23 ?_
    rw [pk_mul]
    refine lv_iconst (v := nI 1) hx hb dX3_putStretched_24 (by decide) ?_
    refine lv_iadd hx hb dX3_putStretched_25 ?_
    rw [nI_add]
    refine lv_iload_n hx hb dX3_putStretched_26 rfl (lv_at hl 1 rfl) ?_
    refine lv_iconst (v := nI 1) hx hb dX3_putStretched_27 (by decide) ?_
    refine lv_iadd hx hb dX3_putStretched_28 ?_
    rw [nI_add]
    refine lv_iload_n hx hb dX3_putStretched_29 rfl (lv_at hl 2 rfl) ?_
    refine lv_imul hx hb dX3_putStretched_30 ?_
    rw [pk_mul]
    refine lv_iconst (v := nI 1) hx hb dX3_putStretched_31 (by decide) ?_
    refine lv_isub hx hb dX3_putStretched_32 ?_
    rw [pk_sub (a := (g + 1) * tt) (b := 1) (by omega)]
    refine lv_iconst (v := nI 1) hx hb dX3_putStretched_33 (by decide) ?_
    refine va_calli (va_runV (As := [.int (nI (((g - 1) * tt) + 1)), .int (nI (((g + 1) * tt) - 1)), .int (nI 1)]) (rest := []) ⟨hx, hb, hml, hown, hts⟩ (conX0_fill l D T (ad (4 + k)) (ad (13 + k)) (F k) (((g - 1) * tt) + 1) ((((g + 1) * tt) - 1) + 1) (nI (((g + 1) * tt) - 1)) (nI 1) (by omega) (by omega) (by rw [nI_toInt (by omega)]; omega) (rfl)) (cwV 3 hts gX3_putStretched_X0_fill rfl rfl rfl (by decide +kernel) ⟨Nat.le_of_ble_eq_true rfl, Nat.le_of_ble_eq_true rfl⟩) (preV hK (hw.g k (by omega)) rfl ⟨(hw.gs k (by omega)).1, (hw.gs k (by omega)).2.1, (hw.gs k (by omega)).2.2⟩) rfl rfl hl.1 rfl (lv_room (Nat.le_of_ble_eq_true rfl)) dX3_putStretched_34 ⟨Nat.le_of_ble_eq_true rfl, Nat.le_of_ble_eq_true rfl⟩) hS (fun q _ h9 => (by have h8 : q = ad (13 + k) := h9; rw [h8]; exact hA (13 + k) (by omega))) (fun q h9 => (by have h8 : q = ad (13 + k) := h9; rw [h8]; exact hA (13 + k) (by omega))) (fun r u t H1 locs1 ht hvm hw9 hB hz1 hk1 hS => ?_)
    try dsimp only at hB
    rw [ht] at hB
    rw [hw9]
    replace hw := hw.setF k (by omega) hB (fun q h1 h2 => hk1 q h1 h2)
    refine lv_pop hx hb dX3_putStretched_37 rfl ?_
    exact W.vret hx hb hr (fun t ht _ => ⟨⟨(), rfl, trivial, by dsimp only; rw [ht]; exact (by rw [pstZ, if_pos c4]; exact hw)⟩, hS.F ht⟩) hS.2.2 dX3_putStretched_38
  · skip
    have c4 : ¬ (g % 2 = 1) := fun q9 => c4 ((pt_odd (by omega)).mpr q9)
    refine lv_aload_n hx hb dX3_putStretched_7 rfl (lv_at hl 0 rfl) ?_
    refine lv_iload_n hx hb dX3_putStretched_8 rfl (lv_at hl 1 rfl) ?_
    refine lv_iload_n hx hb dX3_putStretched_9 rfl (lv_at hl 2 rfl) ?_
    refine lv_imul hx hb dX3_putStretched_10 ?_
    rw [pk_mul]
    refine lv_iconst (v := nI 1) hx hb dX3_putStretched_11 (by decide) ?_
    refine va_callv (va_runV (As := [.int (nI (g * tt)), .int (nI 1)]) (rest := []) ⟨hx, hb, hml, hown, hts⟩ (conX0_write l D T (ad (4 + k)) (ad (13 + k)) (F k) (nI (g * tt)) (nI 1) (rfl)) (cwV 2 hts gX3_putStretched_X0_write rfl rfl rfl (by decide +kernel) ⟨Nat.le_of_ble_eq_true rfl, Nat.le_of_ble_eq_true rfl⟩) (preV hK (hw.g k (by omega)) rfl ⟨(hw.gs k (by omega)).1, (hw.gs k (by omega)).2.1, (hw.gs k (by omega)).2.2⟩) rfl rfl hl.1 rfl (lv_room (Nat.le_of_ble_eq_true rfl)) dX3_putStretched_12 ⟨Nat.le_of_ble_eq_true rfl, Nat.le_of_ble_eq_true rfl⟩) hS (fun q _ h9 => (by have h8 : q = ad (13 + k) := h9; rw [h8]; exact hA (13 + k) (by omega))) (fun q h9 => (by have h8 : q = ad (13 + k) := h9; rw [h8]; exact hA (13 + k) (by omega))) (fun u t H1 locs1 ht hvm hw9 hB hz1 hk1 hS => ?_)
    try dsimp only at hB
    rw [ht] at hB
    replace hw := hw.setF k (by omega) hB (fun q h1 h2 => hk1 q h1 h2)
    refine lv_goto (tgt := 38) hx hb dX3_putStretched_15 (by decide) ?_
    exact W.vret hx hb hr (fun t ht _ => ⟨⟨(), rfl, trivial, by dsimp only; rw [ht]; exact (by rw [pstZ, if_neg c4]; exact hw)⟩, hS.F ht⟩) hS.2.2 dX3_putStretched_38

set_option maxHeartbeats 4000000 in
set_option maxRecDepth 100000 in
theorem conX3_stretch (l : Launch) (D : va_G) (T : Nat → ClassId) (ad : Nat → Nat) (F V : Nat → Nat → Int32) (sr : SRs) (C : Nat → Int32) (k tt : Nat) (hk : k < 8) (h1 : 2 ≤ tt) (h2 : tt ≤ 10) : Met l yX3_stretch wsX3_stretch ({ frames := 3, cells := 0, slots := 0, locals := 69 }) (cP D T [.ref (ad 0), .int (nI k), .int (nI tt)] (fun H => PLW D T ad F V sr C H)) (va_Qi (fun (r : Int32) (_ : Unit) => r = cntZ (strZ (va_up F 8 (copyZ (F 8) (F k) 201)) k tt 201) 201) (fun _ t => PLW D T ad (va_up (va_up F 8 (copyZ (F 8) (F k) 201)) k (strZ (va_up F 8 (copyZ (F 8) (F k) 201)) k tt 201)) V sr C t.heap) (PLA ad)) 0 0 (PLA ad) := by
  refine Met.ofW (cc := cX3_stretch) (maxL := 5) (ret := (some .int)) (by decide) rfl ?_
  intro p e s m args below meth c s₁ B hml hv9
  obtain ⟨rfl, hK, hw⟩ := hv9
  have hx := B.exec
  have hb := B.bytes
  have hr := B.returns
  have hts := atoms_spec (ws := wsX3_stretch) B.pre
  have hown : s.vm.findClass RX3 = some m.cls := findClass_of_methodNamed B.named
  have hlocks := B.notSynchronized
  have hin3 : ∀ w ∈ wsX30, w ∈ wsX3_stretch := by decide +kernel
  generalize hAe : (PLA ad) = A
  have hA : ∀ i : Nat, i < 37 → A (ad i) := fun i hi => by subst hAe; exact ⟨i, hi, rfl⟩
  have hS : va_S A s.heap s.heap [] := va_S.rf
  have hl := lv_entry ([.ref (ad 0), .int (nI k), .int (nI tt)]) (n := 5) (Nat.le_of_ble_eq_true rfl)
  rw [lg_entry_eq]
  generalize (lg_sl ([.ref (ad 0), .int (nI k), .int (nI tt)]) ++ List.replicate (5 - (lg_sl ([.ref (ad 0), .int (nI k), .int (nI tt)])).length) Slot.unset).toArray = ls at hl ⊢
  have hl : lv_has ls 5 [(0, .ref (ad 0)), (1, .int (nI k)), (2, .int (nI tt))] := hl
  refine lv_aload_n hx hb dX3_stretch_0 rfl (lv_at hl 0 rfl) ?_
  refine lv_iload_n hx hb dX3_stretch_1 rfl (lv_at hl 1 rfl) ?_
  refine va_csr (ad := fun k => .ref k) (va_runV (As := [.int (nI k)]) (rest := []) ⟨hx, hb, hml, hown, hts⟩ (conX3_setAt l D T ad F V sr C k (by omega)) (cwV 1 hts gX3_stretch_X3_setAt rfl rfl rfl (by decide +kernel) ⟨Nat.le_of_ble_eq_true rfl, Nat.le_of_ble_eq_true rfl⟩) (preV hK hw.o rfl hw) rfl rfl hl.1 rfl (lv_room (Nat.le_of_ble_eq_true rfl)) dX3_stretch_2 ⟨Nat.le_of_ble_eq_true rfl, Nat.le_of_ble_eq_true rfl⟩).run (fun r1 hr1 => ?_)
  subst hr1
  refine lv_astore_n (lv' := [(3, .ref (ad (4 + k))), (0, .ref (ad 0)), (1, .int (nI k)), (2, .int (nI tt))]) hx hb dX3_stretch_5 rfl hl (by decide) rfl (fun ls hl => ?_)
  refine lv_iload_n hx hb dX3_stretch_6 rfl (lv_at hl 3 rfl) ?_
  refine lv_iconst (v := nI 2) hx hb dX3_stretch_7 (by decide) ?_
  refine lv_icmp_lt (tgt := 17) hx hb dX3_stretch_8 (by decide) (fun c8 => ?_) (fun c8 => ?_)
  · skip
    have c8 : tt < 2 := (nc_lt (a := tt) (b := 2) (by omega) (by omega)).mp c8
    omega
  · skip
    have c8 : ¬ (tt < 2) := fun q9 => c8 ((nc_lt (a := tt) (b := 2) (by omega) (by omega)).mpr q9)
    refine lv_iload_n hx hb dX3_stretch_11 rfl (lv_at hl 3 rfl) ?_
    refine lv_bipush (v := nI 10) hx hb dX3_stretch_12 (by decide) ?_
    refine lv_icmp_le (tgt := 27) hx hb dX3_stretch_14 (by decide) (fun c14 => ?_) (fun c14 => ?_)
    · skip
      have c14 : tt ≤ 10 := (nc_le (a := tt) (b := 10) (by omega) (by omega)).mp c14
      refine lv_aload_n hx hb dX3_stretch_27 rfl (lv_at hl 1 rfl) ?_
      refine q_get (v := .ref (ad (4 + 8))) hx hb hts hin3 hown hK hw.o rfl 2 (by decide) (hts (.fieldLink RX3 22 "PuddingstoneLine" "spareSet" "LPuddingstoneLine$GrainSet;") (by decide +kernel)) (fun _ h9 => h9) rfl dX3_stretch_28 ?_
      refine lv_aload_n hx hb dX3_stretch_31 rfl (lv_at hl 0 rfl) ?_
      refine va_callv (va_runV (As := [.ref (ad (4 + k))]) (rest := []) ⟨hx, hb, hml, hown, hts⟩ (conX0_copyFrom l D T (ad (4 + 8)) (ad (13 + 8)) (F 8) (ad (4 + k)) (ad (13 + k)) (F k)) (cwV 1 hts gX3_stretch_X0_copyFrom rfl rfl rfl (by decide +kernel) ⟨Nat.le_of_ble_eq_true rfl, Nat.le_of_ble_eq_true rfl⟩) (preV hK (hw.g 8 (by omega)) rfl ⟨⟨(hw.gs 8 (by omega)).1, (hw.gs 8 (by omega)).2.1, (hw.gs 8 (by omega)).2.2⟩, ⟨(hw.gs k (by omega)).1, (hw.gs k (by omega)).2.1, (hw.gs k (by omega)).2.2⟩, (hw.1.ne (4 + k) (13 + 8) (by omega) (by omega) (by omega)), (hw.1.ne (13 + k) (13 + 8) (by omega) (by omega) (by omega))⟩) rfl rfl hl.1 rfl (lv_room (Nat.le_of_ble_eq_true rfl)) dX3_stretch_32 ⟨Nat.le_of_ble_eq_true rfl, Nat.le_of_ble_eq_true rfl⟩) hS (fun q _ h9 => (by have h8 : q = ad (13 + 8) := h9; rw [h8]; exact hA (13 + 8) (by omega))) (fun q h9 => (by have h8 : q = ad (13 + 8) := h9; rw [h8]; exact hA (13 + 8) (by omega))) (fun u t H1 locs1 ht hvm hw9 hB hz1 hk1 hS => ?_)
      try dsimp only at hB
      rw [ht] at hB
      replace hw := hw.setF 8 (by omega) hB (fun q h1 h2 => hk1 q h1 h2)
      refine lv_aload_n hx hb dX3_stretch_35 rfl (lv_at hl 0 rfl) ?_
      refine lv_iconst (v := nI 0) hx hb dX3_stretch_36 (by decide) ?_
      refine lv_sipush (v := nI 200) hx hb dX3_stretch_37 (by decide) ?_
      refine lv_iconst (v := nI 0) hx hb dX3_stretch_40 (by decide) ?_
      refine va_calli (va_runV (As := [.int (nI 0), .int (nI 200), .int (nI 0)]) (rest := []) ⟨hx, hb, hml, hown, hts⟩ (conX0_fill l D T (ad (4 + k)) (ad (13 + k)) ((va_up F 8 (copyZ (F 8) (F k) 201)) k) 0 201 (nI 200) (nI 0) (by omega) (by omega) (by rw [nI_toInt (by omega)]; omega) (rfl)) (cwV 3 hts gX3_stretch_X0_fill rfl rfl rfl (by decide +kernel) ⟨Nat.le_of_ble_eq_true rfl, Nat.le_of_ble_eq_true rfl⟩) (preV hK (hw.g k (by omega)) rfl ⟨(hw.gs k (by omega)).1, (hw.gs k (by omega)).2.1, (hw.gs k (by omega)).2.2⟩) rfl rfl hl.1 rfl (lv_room (Nat.le_of_ble_eq_true rfl)) dX3_stretch_41 ⟨Nat.le_of_ble_eq_true rfl, Nat.le_of_ble_eq_true rfl⟩) hS (fun q _ h9 => (by have h8 : q = ad (13 + k) := h9; rw [h8]; exact hA (13 + k) (by omega))) (fun q h9 => (by have h8 : q = ad (13 + k) := h9; rw [h8]; exact hA (13 + k) (by omega))) (fun r u t H1 locs1 ht hvm hw9 hB hz1 hk1 hS => ?_)
      try dsimp only at hB
      rw [ht] at hB
      rw [hw9]
      replace hw := hw.setF k (by omega) hB (fun q h1 h2 => hk1 q h1 h2)
      refine lv_pop hx hb dX3_stretch_44 rfl ?_
      refine lv_iconst (v := nI 0) hx hb dX3_stretch_45 (by decide) ?_
      refine lv_istore (lv' := [(4, .int (nI 0)), (3, .ref (ad (4 + k))), (0, .ref (ad 0)), (1, .int (nI k)), (2, .int (nI tt))]) hx hb dX3_stretch_46 hl (by decide) rfl (fun ls hl => ?_)
      refine q_for (fun (i : Nat) (H : Heap) (locs : List Loc) (ls : Array Slot) => va_S A s.heap H locs ∧ lv_has ls 5 [(4, .int (nI i)), (3, .ref (ad (4 + k))), (0, .ref (ad 0)), (1, .int (nI k)), (2, .int (nI tt))] ∧ PLW D T ad (va_up (va_up F 8 (copyZ (F 8) (F k) 201)) k (strZ (va_up F 8 (copyZ (F 8) (F k) 201)) k tt i)) V sr C H) (N := 201) 0 (by omega) ?_ ?_ ?_
      · skip
        have e2 : va_up (va_up F 8 (copyZ (F 8) (F k) 201)) k ((fillS ((va_up F 8 (copyZ (F 8) (F k) 201)) k) (nI 0) 0 (min 201 201 - 0)).1) = va_up (va_up F 8 (copyZ (F 8) (F k) 201)) k (strZ (va_up F 8 (copyZ (F 8) (F k) 201)) k tt 0) := by (rw [strZ_0])
        exact ⟨hS, lv_sub hl [0, 1, 2, 3, 4] rfl, ((e2 ▸ hw) : PLW D T ad (va_up (va_up F 8 (copyZ (F 8) (F k) 201)) k (strZ (va_up F 8 (copyZ (F 8) (F k) 201)) k tt 0)) V sr C _)⟩
      · skip
        intro i H locs ls hi9 hin9 hnext
        obtain ⟨hS, hl, hw⟩ := hin9
        refine lv_iload hx hb dX3_stretch_48 (lv_at hl 0 rfl) ?_
        refine lv_sipush (v := nI 201) hx hb dX3_stretch_50 (by decide) ?_
        refine lv_icmp_ge (tgt := 81) hx hb dX3_stretch_53 (by decide) (fun c53 => ?_) (fun c53 => ?_)
        · skip
          have c53 : 201 ≤ i := (nc_le (a := 201) (b := i) (by omega) (by omega)).mp c53
          omega
        · skip
          have c53 : ¬ (201 ≤ i) := fun q9 => c53 ((nc_le (a := 201) (b := i) (by omega) (by omega)).mpr q9)
          refine lv_aload_n hx hb dX3_stretch_56 rfl (lv_at hl 2 rfl) ?_
          refine q_get (v := .ref (ad (4 + 8))) hx hb hts hin3 hown hK hw.o rfl 2 (by decide) (hts (.fieldLink RX3 22 "PuddingstoneLine" "spareSet" "LPuddingstoneLine$GrainSet;") (by decide +kernel)) (fun _ h9 => h9) rfl dX3_stretch_57 ?_
          refine lv_iload hx hb dX3_stretch_60 (lv_at hl 0 rfl) ?_
          refine vp_callSi (va_runV (As := [.int (nI i)]) (rest := []) ⟨hx, hb, hml, hown, hts⟩ (conX0_holds l D T (ad (4 + 8)) (ad (13 + 8)) ((va_up (va_up F 8 (copyZ (F 8) (F k) 201)) k (strZ (va_up F 8 (copyZ (F 8) (F k) 201)) k tt i)) 8) (nI i)) (cwV 1 hts gX3_stretch_X0_holds rfl rfl rfl (by decide +kernel) ⟨Nat.le_of_ble_eq_true rfl, Nat.le_of_ble_eq_true rfl⟩) (preV hK (hw.g 8 (by omega)) rfl ⟨(hw.gs 8 (by omega)).1, (hw.gs 8 (by omega)).2.1, (hw.gs 8 (by omega)).2.2⟩) rfl rfl hl.1 rfl (lv_room (Nat.le_of_ble_eq_true rfl)) dX3_stretch_62 ⟨Nat.le_of_ble_eq_true rfl, Nat.le_of_ble_eq_true rfl⟩).run (fun r3 hr3 => ?_)
          rw [hr3]
          refine lv_if_eq (tgt := 75) hx hb dX3_stretch_65 (by decide) (fun c65 => ?_) (fun c65 => ?_)
          · skip
            refine lv_iinc (v := nI (i + 1)) (lv' := [(4, .int (nI (i + 1))), (3, .ref (ad (4 + k))), (0, .ref (ad 0)), (1, .int (nI k)), (2, .int (nI tt))]) hx hb dX3_stretch_75 hl (k := 0) rfl (inc_1 _) (by decide) rfl (fun ls hl => ?_)
            refine lv_goto (tgt := 48) hx hb dX3_stretch_78 (by decide) ?_
            have e4 : va_up (va_up F 8 (copyZ (F 8) (F k) 201)) k (strZ (va_up F 8 (copyZ (F 8) (F k) 201)) k tt i) = va_up (va_up F 8 (copyZ (F 8) (F k) 201)) k (strZ (va_up F 8 (copyZ (F 8) (F k) 201)) k tt (i + 1)) := by first | (rw [strZ_s, if_pos c65]; done) | (rw [strZ_s, if_neg c65]; done)
            exact hnext _ _ _ ⟨hS, lv_sub hl [0, 1, 2, 3, 4] rfl, ((e4 ▸ hw) : PLW D T ad (va_up (va_up F 8 (copyZ (F 8) (F k) 201)) k (strZ (va_up F 8 (copyZ (F 8) (F k) 201)) k tt (i + 1))) V sr C _)⟩
          · skip
            refine lv_aload_n hx hb dX3_stretch_68 rfl (lv_at hl 1 rfl) ?_
            refine lv_iload hx hb dX3_stretch_69 (lv_at hl 0 rfl) ?_
            refine lv_iload_n hx hb dX3_stretch_71 rfl (lv_at hl 4 rfl) ?_
            refine va_callv (va_runS (As := [.ref (ad (4 + k)), .int (nI i), .int (nI tt)]) (rest := []) ⟨hx, hb, hml, hown, hts⟩ (conX3_putStretched l D T ad (va_up (va_up F 8 (copyZ (F 8) (F k) 201)) k (strZ (va_up F 8 (copyZ (F 8) (F k) 201)) k tt i)) V sr C k i tt (by omega) (by omega) (by omega) (by omega)) (va_cwS 3 hts gX3_stretch_X3_putStretched rfl rfl rfl (by decide +kernel) ⟨Nat.le_of_ble_eq_true rfl, Nat.le_of_ble_eq_true rfl⟩) (preS hK hw) rfl rfl hl.1 rfl (lv_room (Nat.le_of_ble_eq_true rfl)) dX3_stretch_72 ⟨Nat.le_of_ble_eq_true rfl, Nat.le_of_ble_eq_true rfl⟩) hS (fun q _ h9 => (by obtain ⟨i8, h7, h8⟩ := (show PLA ad q from h9); rw [h8]; exact hA i8 h7)) (fun q h9 => (by obtain ⟨i8, h7, h8⟩ := (show PLA ad q from h9); rw [h8]; exact hA i8 h7)) (fun u t H1 locs1 ht hvm hw9 hB hz1 hk1 hS => ?_)
            try dsimp only at hB
            rw [ht] at hB
            replace hw := hB
            rw [va_up_up, va_up_s] at hw
            refine lv_iinc (v := nI (i + 1)) (lv' := [(4, .int (nI (i + 1))), (3, .ref (ad (4 + k))), (0, .ref (ad 0)), (1, .int (nI k)), (2, .int (nI tt))]) hx hb dX3_stretch_75 hl (k := 0) rfl (inc_1 _) (by decide) rfl (fun ls hl => ?_)
            refine lv_goto (tgt := 48) hx hb dX3_stretch_78 (by decide) ?_
            have e5 : va_up (va_up F 8 (copyZ (F 8) (F k) 201)) k (pstZ (strZ (va_up F 8 (copyZ (F 8) (F k) 201)) k tt i) i tt) = va_up (va_up F 8 (copyZ (F 8) (F k) 201)) k (strZ (va_up F 8 (copyZ (F 8) (F k) 201)) k tt (i + 1)) := by first | (rw [strZ_s, if_pos c65]; done) | (rw [strZ_s, if_neg c65]; done)
            exact hnext _ _ _ ⟨hS, lv_sub hl [0, 1, 2, 3, 4] rfl, ((e5 ▸ hw) : PLW D T ad (va_up (va_up F 8 (copyZ (F 8) (F k) 201)) k (strZ (va_up F 8 (copyZ (F 8) (F k) 201)) k tt (i + 1))) V sr C _)⟩
      · skip
        intro H locs ls hin9
        obtain ⟨hS, hl, hw⟩ := hin9
        refine lv_iload hx hb dX3_stretch_48 (lv_at hl 0 rfl) ?_
        refine lv_sipush (v := nI 201) hx hb dX3_stretch_50 (by decide) ?_
        refine lv_icmp_ge (tgt := 81) hx hb dX3_stretch_53 (by decide) (fun c53 => ?_) (fun c53 => ?_)
        · skip
          have c53 : 201 ≤ 201 := (nc_le (a := 201) (b := 201) (by omega) (by omega)).mp c53
          refine lv_aload_n hx hb dX3_stretch_81 rfl (lv_at hl 1 rfl) ?_
          refine vp_callSi (va_runV (As := []) (rest := []) ⟨hx, hb, hml, hown, hts⟩ (conX0_count l D T (ad (4 + k)) (ad (13 + k)) (strZ (va_up F 8 (copyZ (F 8) (F k) 201)) k tt 201)) (cwV 0 hts gX3_stretch_X0_count rfl rfl rfl (by decide +kernel) ⟨Nat.le_of_ble_eq_true rfl, Nat.le_of_ble_eq_true rfl⟩) (preV hK (hw.g k (by omega)) rfl ⟨(hw.gsU k (by omega)).1, (hw.gsU k (by omega)).2.1, (hw.gsU k (by omega)).2.2⟩) rfl rfl hl.1 rfl (lv_room (Nat.le_of_ble_eq_true rfl)) dX3_stretch_82 ⟨Nat.le_of_ble_eq_true rfl, Nat.le_of_ble_eq_true rfl⟩).run (fun r6 hr6 => ?_)
          rw [hr6]
          exact W.iret (v := cntZ (strZ (va_up F 8 (copyZ (F 8) (F k) 201)) k tt 201) 201) hx hb hr (fun t ht _ => ⟨⟨cntZ (strZ (va_up F 8 (copyZ (F 8) (F k) 201)) k tt 201) 201, (), rfl, by rfl, by dsimp only; rw [ht]; exact hw⟩, hS.F ht⟩) hS.2.2 dX3_stretch_85
        · skip
          have c53 : ¬ (201 ≤ 201) := fun q9 => c53 ((nc_le (a := 201) (b := 201) (by omega) (by omega)).mpr q9)
          omega
    · skip
      have c14 : ¬ (tt ≤ 10) := fun q9 => c14 ((nc_le (a := tt) (b := 10) (by omega) (by omega)).mpr q9)
      omega
