set_option maxHeartbeats 4000000 in
set_option maxRecDepth 100000 in
theorem conX3_turnFunction (l : Launch) (D : va_G) (T : Nat → ClassId) (ad : Nat → Nat) (F V : Nat → Nat → Int32) (sr : SRs) (C : Nat → Int32) (k how nn : Nat) (x : Int32) (hk : k < 5) (hho : how ≤ 6) (hx9 : 5 ≤ how → x = nI nn ∧ nn ≤ 200) : Met l yX3_turnFunction wsX3_turnFunction ({ frames := 3, cells := 0, slots := 0, locals := 68 }) (cP D T [.ref (ad 0), .ref (ad (22 + k)), .int (nI how), .int x] (fun H => PLW D T ad F V sr C H)) (va_Qv (fun (_ : Unit) => True) (fun _ t => PLW D T ad F (va_up (va_up V 5 (copyV (V 5) (V k) 201)) k (trnV (va_up V 5 (copyV (V 5) (V k) 201)) k how nn)) sr C t.heap) (PLA ad)) 0 0 (PLA ad) := by
  refine Met.ofW (cc := cX3_turnFunction) (maxL := 4) (ret := none) (by decide) rfl ?_
  intro p e s m args below meth c s₁ B hml hv9
  obtain ⟨rfl, hK, hw⟩ := hv9
  have hx := B.exec
  have hb := B.bytes
  have hr := B.returns
  have hts := atoms_spec (ws := wsX3_turnFunction) B.pre
  have hown : s.vm.findClass RX3 = some m.cls := findClass_of_methodNamed B.named
  have hlocks := B.notSynchronized
  have hin3 : ∀ w ∈ wsX30, w ∈ wsX3_turnFunction := by decide +kernel
  generalize hAe : (PLA ad) = A
  have hA : ∀ i : Nat, i < 37 → A (ad i) := fun i hi => by subst hAe; exact ⟨i, hi, rfl⟩
  have hS : va_S A s.heap s.heap [] := va_S.rf
  have hl := lv_entry ([.ref (ad 0), .ref (ad (22 + k)), .int (nI how), .int x]) (n := 4) (Nat.le_of_ble_eq_true rfl)
  rw [lg_entry_eq]
  generalize (lg_sl ([.ref (ad 0), .ref (ad (22 + k)), .int (nI how), .int x]) ++ List.replicate (4 - (lg_sl ([.ref (ad 0), .ref (ad (22 + k)), .int (nI how), .int x])).length) Slot.unset).toArray = ls at hl ⊢
  have hl : lv_has ls 4 [(0, .ref (ad 0)), (1, .ref (ad (22 + k))), (2, .int (nI how)), (3, .int x)] := hl
  refine lv_aload_n hx hb dX3_turnFunction_0 rfl (lv_at hl 0 rfl) ?_
  refine q_get (v := .ref (ad (22 + 5))) hx hb hts hin3 hown hK hw.o rfl 3 (by decide) (hts (.fieldLink RX3 27 "PuddingstoneLine" "spareFunction" "LPuddingstoneLine$StepFunction;") (by decide +kernel)) (fun _ h9 => h9) rfl dX3_turnFunction_1 ?_
  refine lv_aload_n hx hb dX3_turnFunction_4 rfl (lv_at hl 1 rfl) ?_
  refine va_callv (va_runV (As := [.ref (ad (22 + k))]) (rest := []) ⟨hx, hb, hml, hown, hts⟩ (conX2_copyFrom l D T (ad (22 + 5)) (ad (28 + 5)) (V 5) (ad (22 + k)) (ad (28 + k)) (V k)) (cwV 1 hts gX3_turnFunction_X2_copyFrom rfl rfl rfl (by decide +kernel) ⟨Nat.le_of_ble_eq_true rfl, Nat.le_of_ble_eq_true rfl⟩) (preV hK (hw.f 5 (by omega)) rfl ⟨⟨(hw.sf 5 (by omega)).1, (hw.sf 5 (by omega)).2.1, (hw.sf 5 (by omega)).2.2⟩, ⟨(hw.sf k (by omega)).1, (hw.sf k (by omega)).2.1, (hw.sf k (by omega)).2.2⟩, (hw.1.ne (22 + k) (28 + 5) (by omega) (by omega) (by omega)), (hw.1.ne (28 + k) (28 + 5) (by omega) (by omega) (by omega))⟩) rfl rfl hl.1 rfl (lv_room (Nat.le_of_ble_eq_true rfl)) dX3_turnFunction_5 ⟨Nat.le_of_ble_eq_true rfl, Nat.le_of_ble_eq_true rfl⟩) hS (fun q _ h9 => (by have h8 : q = ad (28 + 5) := h9; rw [h8]; exact hA (28 + 5) (by omega))) (fun q h9 => (by have h8 : q = ad (28 + 5) := h9; rw [h8]; exact hA (28 + 5) (by omega))) (fun u t H1 locs1 ht hvm hw9 hB hz1 hk1 hS => ?_)
  try dsimp only at hB
  rw [ht] at hB
  replace hw := hw.setV 5 (by omega) hB (fun q h1 h2 => hk1 q h1 h2)
  refine lv_iload_n hx hb dX3_turnFunction_8 rfl (lv_at hl 2 rfl) ?_
  by_cases e9_0 : how = 0
  · skip
    refine lv_tableIn (off := 39) (tgt := 48) hx hb dX3_turnFunction_9 (by rw [e9_0]; decide) (by rw [e9_0]; decide) (by rw [e9_0]; rfl) (by decide) ?_
    refine lv_aload_n hx hb dX3_turnFunction_48 rfl (lv_at hl 1 rfl) ?_
    refine va_callv (va_runV (As := []) (rest := []) ⟨hx, hb, hml, hown, hts⟩ (conX2_negate l D T (ad (22 + k)) (ad (28 + k)) ((va_up V 5 (copyV (V 5) (V k) 201)) k)) (cwV 0 hts gX3_turnFunction_X2_negate rfl rfl rfl (by decide +kernel) ⟨Nat.le_of_ble_eq_true rfl, Nat.le_of_ble_eq_true rfl⟩) (preV hK (hw.f k (by omega)) rfl ⟨(hw.sf k (by omega)).1, (hw.sf k (by omega)).2.1, (hw.sf k (by omega)).2.2⟩) rfl rfl hl.1 rfl (lv_room (Nat.le_of_ble_eq_true rfl)) dX3_turnFunction_49 ⟨Nat.le_of_ble_eq_true rfl, Nat.le_of_ble_eq_true rfl⟩) hS (fun q _ h9 => (by have h8 : q = ad (28 + k) := h9; rw [h8]; exact hA (28 + k) (by omega))) (fun q h9 => (by have h8 : q = ad (28 + k) := h9; rw [h8]; exact hA (28 + k) (by omega))) (fun u t H1 locs1 ht hvm hw9 hB hz1 hk1 hS => ?_)
    try dsimp only at hB
    rw [ht] at hB
    replace hw := hw.setV k (by omega) hB (fun q h1 h2 => hk1 q h1 h2)
    refine lv_goto (tgt := 108) hx hb dX3_turnFunction_52 (by decide) ?_
    exact W.vret hx hb hr (fun t ht _ => ⟨⟨(), rfl, trivial, by dsimp only; rw [ht]; exact (by rw [trnV, if_pos e9_0]; exact hw)⟩, hS.F ht⟩) hS.2.2 dX3_turnFunction_108
  by_cases e9_1 : how = 1
  · skip
    refine lv_tableIn (off := 46) (tgt := 55) hx hb dX3_turnFunction_9 (by rw [e9_1]; decide) (by rw [e9_1]; decide) (by rw [e9_1]; rfl) (by decide) ?_
    refine lv_aload_n hx hb dX3_turnFunction_55 rfl (lv_at hl 1 rfl) ?_
    refine va_callv (va_runV (As := []) (rest := []) ⟨hx, hb, hml, hown, hts⟩ (conX2_climbFromLeft l D T (ad (22 + k)) (ad (28 + k)) ((va_up V 5 (copyV (V 5) (V k) 201)) k)) (cwV 0 hts gX3_turnFunction_X2_climbFromLeft rfl rfl rfl (by decide +kernel) ⟨Nat.le_of_ble_eq_true rfl, Nat.le_of_ble_eq_true rfl⟩) (preV hK (hw.f k (by omega)) rfl ⟨(hw.sf k (by omega)).1, (hw.sf k (by omega)).2.1, (hw.sf k (by omega)).2.2⟩) rfl rfl hl.1 rfl (lv_room (Nat.le_of_ble_eq_true rfl)) dX3_turnFunction_56 ⟨Nat.le_of_ble_eq_true rfl, Nat.le_of_ble_eq_true rfl⟩) hS (fun q _ h9 => (by have h8 : q = ad (28 + k) := h9; rw [h8]; exact hA (28 + k) (by omega))) (fun q h9 => (by have h8 : q = ad (28 + k) := h9; rw [h8]; exact hA (28 + k) (by omega))) (fun u t H1 locs1 ht hvm hw9 hB hz1 hk1 hS => ?_)
    try dsimp only at hB
    rw [ht] at hB
    replace hw := hw.setV k (by omega) hB (fun q h1 h2 => hk1 q h1 h2)
    refine lv_goto (tgt := 108) hx hb dX3_turnFunction_59 (by decide) ?_
    exact W.vret hx hb hr (fun t ht _ => ⟨⟨(), rfl, trivial, by dsimp only; rw [ht]; exact (by rw [trnV, if_neg (by omega), if_pos e9_1]; exact hw)⟩, hS.F ht⟩) hS.2.2 dX3_turnFunction_108
  by_cases e9_2 : how = 2
  · skip
    refine lv_tableIn (off := 53) (tgt := 62) hx hb dX3_turnFunction_9 (by rw [e9_2]; decide) (by rw [e9_2]; decide) (by rw [e9_2]; rfl) (by decide) ?_
    refine lv_aload_n hx hb dX3_turnFunction_62 rfl (lv_at hl 1 rfl) ?_
    refine va_callv (va_runV (As := []) (rest := []) ⟨hx, hb, hml, hown, hts⟩ (conX2_climbFromRight l D T (ad (22 + k)) (ad (28 + k)) ((va_up V 5 (copyV (V 5) (V k) 201)) k)) (cwV 0 hts gX3_turnFunction_X2_climbFromRight rfl rfl rfl (by decide +kernel) ⟨Nat.le_of_ble_eq_true rfl, Nat.le_of_ble_eq_true rfl⟩) (preV hK (hw.f k (by omega)) rfl ⟨(hw.sf k (by omega)).1, (hw.sf k (by omega)).2.1, (hw.sf k (by omega)).2.2⟩) rfl rfl hl.1 rfl (lv_room (Nat.le_of_ble_eq_true rfl)) dX3_turnFunction_63 ⟨Nat.le_of_ble_eq_true rfl, Nat.le_of_ble_eq_true rfl⟩) hS (fun q _ h9 => (by have h8 : q = ad (28 + k) := h9; rw [h8]; exact hA (28 + k) (by omega))) (fun q h9 => (by have h8 : q = ad (28 + k) := h9; rw [h8]; exact hA (28 + k) (by omega))) (fun u t H1 locs1 ht hvm hw9 hB hz1 hk1 hS => ?_)
    try dsimp only at hB
    rw [ht] at hB
    replace hw := hw.setV k (by omega) hB (fun q h1 h2 => hk1 q h1 h2)
    refine lv_goto (tgt := 108) hx hb dX3_turnFunction_66 (by decide) ?_
    exact W.vret hx hb hr (fun t ht _ => ⟨⟨(), rfl, trivial, by dsimp only; rw [ht]; exact (by rw [trnV, if_neg (by omega), if_neg (by omega), if_pos e9_2]; exact hw)⟩, hS.F ht⟩) hS.2.2 dX3_turnFunction_108
  by_cases e9_3 : how = 3
  · skip
    refine lv_tableIn (off := 60) (tgt := 69) hx hb dX3_turnFunction_9 (by rw [e9_3]; decide) (by rw [e9_3]; decide) (by rw [e9_3]; rfl) (by decide) ?_
    refine lv_aload_n hx hb dX3_turnFunction_69 rfl (lv_at hl 1 rfl) ?_
    refine va_callv (va_runV (As := []) (rest := []) ⟨hx, hb, hml, hown, hts⟩ (conX2_addUp l D T (ad (22 + k)) (ad (28 + k)) ((va_up V 5 (copyV (V 5) (V k) 201)) k)) (cwV 0 hts gX3_turnFunction_X2_addUp rfl rfl rfl (by decide +kernel) ⟨Nat.le_of_ble_eq_true rfl, Nat.le_of_ble_eq_true rfl⟩) (preV hK (hw.f k (by omega)) rfl ⟨(hw.sf k (by omega)).1, (hw.sf k (by omega)).2.1, (hw.sf k (by omega)).2.2⟩) rfl rfl hl.1 rfl (lv_room (Nat.le_of_ble_eq_true rfl)) dX3_turnFunction_70 ⟨Nat.le_of_ble_eq_true rfl, Nat.le_of_ble_eq_true rfl⟩) hS (fun q _ h9 => (by have h8 : q = ad (28 + k) := h9; rw [h8]; exact hA (28 + k) (by omega))) (fun q h9 => (by have h8 : q = ad (28 + k) := h9; rw [h8]; exact hA (28 + k) (by omega))) (fun u t H1 locs1 ht hvm hw9 hB hz1 hk1 hS => ?_)
    try dsimp only at hB
    rw [ht] at hB
    replace hw := hw.setV k (by omega) hB (fun q h1 h2 => hk1 q h1 h2)
    refine lv_goto (tgt := 108) hx hb dX3_turnFunction_73 (by decide) ?_
    exact W.vret hx hb hr (fun t ht _ => ⟨⟨(), rfl, trivial, by dsimp only; rw [ht]; exact (by rw [trnV, if_neg (by omega), if_neg (by omega), if_neg (by omega), if_pos e9_3]; exact hw)⟩, hS.F ht⟩) hS.2.2 dX3_turnFunction_108
  by_cases e9_4 : how = 4
  · skip
    refine lv_tableIn (off := 67) (tgt := 76) hx hb dX3_turnFunction_9 (by rw [e9_4]; decide) (by rw [e9_4]; decide) (by rw [e9_4]; rfl) (by decide) ?_
    refine lv_aload_n hx hb dX3_turnFunction_76 rfl (lv_at hl 1 rfl) ?_
    refine lv_aload_n hx hb dX3_turnFunction_77 rfl (lv_at hl 0 rfl) ?_
    refine q_get (v := .ref (ad (22 + 5))) hx hb hts hin3 hown hK hw.o rfl 3 (by decide) (hts (.fieldLink RX3 27 "PuddingstoneLine" "spareFunction" "LPuddingstoneLine$StepFunction;") (by decide +kernel)) (fun _ h9 => h9) rfl dX3_turnFunction_78 ?_
    refine va_callv (va_runV (As := [.ref (ad (22 + 5))]) (rest := []) ⟨hx, hb, hml, hown, hts⟩ (conX2_mirrorOf l D T (ad (22 + k)) (ad (28 + k)) ((va_up V 5 (copyV (V 5) (V k) 201)) k) (ad (22 + 5)) (ad (28 + 5)) (copyV (V 5) (V k) 201)) (cwV 1 hts gX3_turnFunction_X2_mirrorOf rfl rfl rfl (by decide +kernel) ⟨Nat.le_of_ble_eq_true rfl, Nat.le_of_ble_eq_true rfl⟩) (preV hK (hw.f k (by omega)) rfl ⟨⟨(hw.sf k (by omega)).1, (hw.sf k (by omega)).2.1, (hw.sf k (by omega)).2.2⟩, ⟨(hw.sfU 5 (by omega)).1, (hw.sfU 5 (by omega)).2.1, (hw.sfU 5 (by omega)).2.2⟩, (hw.1.ne (22 + 5) (28 + k) (by omega) (by omega) (by omega)), (hw.1.ne (28 + 5) (28 + k) (by omega) (by omega) (by omega))⟩) rfl rfl hl.1 rfl (lv_room (Nat.le_of_ble_eq_true rfl)) dX3_turnFunction_81 ⟨Nat.le_of_ble_eq_true rfl, Nat.le_of_ble_eq_true rfl⟩) hS (fun q _ h9 => (by have h8 : q = ad (28 + k) := h9; rw [h8]; exact hA (28 + k) (by omega))) (fun q h9 => (by have h8 : q = ad (28 + k) := h9; rw [h8]; exact hA (28 + k) (by omega))) (fun u t H1 locs1 ht hvm hw9 hB hz1 hk1 hS => ?_)
    try dsimp only at hB
    rw [ht] at hB
    replace hw := hw.setV k (by omega) hB (fun q h1 h2 => hk1 q h1 h2)
    refine lv_goto (tgt := 108) hx hb dX3_turnFunction_84 (by decide) ?_
    exact W.vret hx hb hr (fun t ht _ => ⟨⟨(), rfl, trivial, by dsimp only; rw [ht]; exact (by rw [trnV, if_neg (by omega), if_neg (by omega), if_neg (by omega), if_neg (by omega), if_pos e9_4]; exact hw)⟩, hS.F ht⟩) hS.2.2 dX3_turnFunction_108
  by_cases e9_5 : how = 5
  · skip
    refine lv_tableIn (off := 78) (tgt := 87) hx hb dX3_turnFunction_9 (by rw [e9_5]; decide) (by rw [e9_5]; decide) (by rw [e9_5]; rfl) (by decide) ?_
    obtain ⟨rfl, h200⟩ := hx9 (by omega)
    refine lv_aload_n hx hb dX3_turnFunction_87 rfl (lv_at hl 1 rfl) ?_
    refine lv_aload_n hx hb dX3_turnFunction_88 rfl (lv_at hl 0 rfl) ?_
    refine q_get (v := .ref (ad (22 + 5))) hx hb hts hin3 hown hK hw.o rfl 3 (by decide) (hts (.fieldLink RX3 27 "PuddingstoneLine" "spareFunction" "LPuddingstoneLine$StepFunction;") (by decide +kernel)) (fun _ h9 => h9) rfl dX3_turnFunction_89 ?_
    refine lv_iload_n hx hb dX3_turnFunction_92 rfl (lv_at hl 3 rfl) ?_
    refine va_callv (va_runV (As := [.ref (ad (22 + 5)), .int (nI nn)]) (rest := []) ⟨hx, hb, hml, hown, hts⟩ (conX2_greatestNear l D T (ad (22 + k)) (ad (28 + k)) ((va_up V 5 (copyV (V 5) (V k) 201)) k) (ad (22 + 5)) (ad (28 + 5)) (copyV (V 5) (V k) 201) nn (by omega)) (cwV 2 hts gX3_turnFunction_X2_greatestNear rfl rfl rfl (by decide +kernel) ⟨Nat.le_of_ble_eq_true rfl, Nat.le_of_ble_eq_true rfl⟩) (preV hK (hw.f k (by omega)) rfl ⟨⟨(hw.sf k (by omega)).1, (hw.sf k (by omega)).2.1, (hw.sf k (by omega)).2.2⟩, ⟨(hw.sfU 5 (by omega)).1, (hw.sfU 5 (by omega)).2.1, (hw.sfU 5 (by omega)).2.2⟩, (hw.1.ne (22 + 5) (28 + k) (by omega) (by omega) (by omega)), (hw.1.ne (28 + 5) (28 + k) (by omega) (by omega) (by omega))⟩) rfl rfl hl.1 rfl (lv_room (Nat.le_of_ble_eq_true rfl)) dX3_turnFunction_93 ⟨Nat.le_of_ble_eq_true rfl, Nat.le_of_ble_eq_true rfl⟩) hS (fun q _ h9 => (by have h8 : q = ad (28 + k) := h9; rw [h8]; exact hA (28 + k) (by omega))) (fun q h9 => (by have h8 : q = ad (28 + k) := h9; rw [h8]; exact hA (28 + k) (by omega))) (fun u t H1 locs1 ht hvm hw9 hB hz1 hk1 hS => ?_)
    try dsimp only at hB
    rw [ht] at hB
    replace hw := hw.setV k (by omega) hB (fun q h1 h2 => hk1 q h1 h2)
    refine lv_goto (tgt := 108) hx hb dX3_turnFunction_96 (by decide) ?_
    exact W.vret hx hb hr (fun t ht _ => ⟨⟨(), rfl, trivial, by dsimp only; rw [ht]; exact (by rw [trnV, if_neg (by omega), if_neg (by omega), if_neg (by omega), if_neg (by omega), if_neg (by omega), if_pos e9_5]; exact hw)⟩, hS.F ht⟩) hS.2.2 dX3_turnFunction_108
  refine lv_tableOut (tgt := 99) hx hb dX3_turnFunction_9 (Or.inr (by rw [nI_toInt (by omega)]; omega)) (by decide) ?_
  obtain ⟨rfl, h200⟩ := hx9 (by omega)
  refine lv_aload_n hx hb dX3_turnFunction_99 rfl (lv_at hl 1 rfl) ?_
  refine lv_aload_n hx hb dX3_turnFunction_100 rfl (lv_at hl 0 rfl) ?_
  refine q_get (v := .ref (ad (22 + 5))) hx hb hts hin3 hown hK hw.o rfl 3 (by decide) (hts (.fieldLink RX3 27 "PuddingstoneLine" "spareFunction" "LPuddingstoneLine$StepFunction;") (by decide +kernel)) (fun _ h9 => h9) rfl dX3_turnFunction_101 ?_
  refine lv_iload_n hx hb dX3_turnFunction_104 rfl (lv_at hl 3 rfl) ?_
  refine va_callv (va_runV (As := [.ref (ad (22 + 5)), .int (nI nn)]) (rest := []) ⟨hx, hb, hml, hown, hts⟩ (conX2_leastNear l D T (ad (22 + k)) (ad (28 + k)) ((va_up V 5 (copyV (V 5) (V k) 201)) k) (ad (22 + 5)) (ad (28 + 5)) (copyV (V 5) (V k) 201) nn (by omega)) (cwV 2 hts gX3_turnFunction_X2_leastNear rfl rfl rfl (by decide +kernel) ⟨Nat.le_of_ble_eq_true rfl, Nat.le_of_ble_eq_true rfl⟩) (preV hK (hw.f k (by omega)) rfl ⟨⟨(hw.sf k (by omega)).1, (hw.sf k (by omega)).2.1, (hw.sf k (by omega)).2.2⟩, ⟨(hw.sfU 5 (by omega)).1, (hw.sfU 5 (by omega)).2.1, (hw.sfU 5 (by omega)).2.2⟩, (hw.1.ne (22 + 5) (28 + k) (by omega) (by omega) (by omega)), (hw.1.ne (28 + 5) (28 + k) (by omega) (by omega) (by omega))⟩) rfl rfl hl.1 rfl (lv_room (Nat.le_of_ble_eq_true rfl)) dX3_turnFunction_105 ⟨Nat.le_of_ble_eq_true rfl, Nat.le_of_ble_eq_true rfl⟩) hS (fun q _ h9 => (by have h8 : q = ad (28 + k) := h9; rw [h8]; exact hA (28 + k) (by omega))) (fun q h9 => (by have h8 : q = ad (28 + k) := h9; rw [h8]; exact hA (28 + k) (by omega))) (fun u t H1 locs1 ht hvm hw9 hB hz1 hk1 hS => ?_)
  try dsimp only at hB
  rw [ht] at hB
  replace hw := hw.setV k (by omega) hB (fun q h1 h2 => hk1 q h1 h2)
  exact W.vret hx hb hr (fun t ht _ => ⟨⟨(), rfl, trivial, by dsimp only; rw [ht]; exact (by rw [trnV, if_neg e9_0, if_neg e9_1, if_neg e9_2, if_neg e9_3, if_neg e9_4, if_neg e9_5]; exact hw)⟩, hS.F ht⟩) hS.2.2 dX3_turnFunction_108

set_option maxHeartbeats 4000000 in
set_option maxRecDepth 100000 in
theorem conX3_turn (l : Launch) (D : va_G) (T : Nat → ClassId) (ad : Nat → Nat) (F V : Nat → Nat → Int32) (sr : SRs) (C : Nat → Int32) (k how nn : Nat) (x : Int32) (hk : k < 5) (hho : how ≤ 6) (hx9 : 5 ≤ how → x = nI nn ∧ nn ≤ 200) : Met l yX3_turn wsX3_turn ({ frames := 4, cells := 0, slots := 0, locals := 91 }) (cP D T [.ref (ad 0), .int (nI k), .int (nI how), .int x] (fun H => PLW D T ad F V sr C H)) (va_Qi (fun (r : Int32) (_ : Unit) => r = stepsV (trnV (va_up V 5 (copyV (V 5) (V k) 201)) k how nn) 200) (fun _ t => PLW D T ad F (va_up (va_up V 5 (copyV (V 5) (V k) 201)) k (trnV (va_up V 5 (copyV (V 5) (V k) 201)) k how nn)) sr C t.heap) (PLA ad)) 0 0 (PLA ad) := by
  refine Met.ofW (cc := cX3_turn) (maxL := 5) (ret := (some .int)) (by decide) rfl ?_
  intro p e s m args below meth c s₁ B hml hv9
  obtain ⟨rfl, hK, hw⟩ := hv9
  have hx := B.exec
  have hb := B.bytes
  have hr := B.returns
  have hts := atoms_spec (ws := wsX3_turn) B.pre
  have hown : s.vm.findClass RX3 = some m.cls := findClass_of_methodNamed B.named
  have hlocks := B.notSynchronized
  generalize hAe : (PLA ad) = A
  have hA : ∀ i : Nat, i < 37 → A (ad i) := fun i hi => by subst hAe; exact ⟨i, hi, rfl⟩
  have hS : va_S A s.heap s.heap [] := va_S.rf
  have hl := lv_entry ([.ref (ad 0), .int (nI k), .int (nI how), .int x]) (n := 5) (Nat.le_of_ble_eq_true rfl)
  rw [lg_entry_eq]
  generalize (lg_sl ([.ref (ad 0), .int (nI k), .int (nI how), .int x]) ++ List.replicate (5 - (lg_sl ([.ref (ad 0), .int (nI k), .int (nI how), .int x])).length) Slot.unset).toArray = ls at hl ⊢
  have hl : lv_has ls 5 [(0, .ref (ad 0)), (1, .int (nI k)), (2, .int (nI how)), (3, .int x)] := hl
  refine lv_aload_n hx hb dX3_turn_0 rfl (lv_at hl 0 rfl) ?_
  refine lv_iload_n hx hb dX3_turn_1 rfl (lv_at hl 1 rfl) ?_
  refine va_csr (ad := fun k => .ref k) (va_runV (As := [.int (nI k)]) (rest := []) ⟨hx, hb, hml, hown, hts⟩ (conX3_functionAt l D T ad F V sr C k (by omega)) (cwV 1 hts gX3_turn_X3_functionAt rfl rfl rfl (by decide +kernel) ⟨Nat.le_of_ble_eq_true rfl, Nat.le_of_ble_eq_true rfl⟩) (preV hK hw.o rfl hw) rfl rfl hl.1 rfl (lv_room (Nat.le_of_ble_eq_true rfl)) dX3_turn_2 ⟨Nat.le_of_ble_eq_true rfl, Nat.le_of_ble_eq_true rfl⟩).run (fun r1 hr1 => ?_)
  subst hr1
  refine lv_astore (lv' := [(4, .ref (ad (22 + k))), (0, .ref (ad 0)), (1, .int (nI k)), (2, .int (nI how)), (3, .int x)]) hx hb dX3_turn_5 hl (by decide) rfl (fun ls hl => ?_)
  refine lv_iload_n hx hb dX3_turn_7 rfl (lv_at hl 3 rfl) ?_
  refine lv_bipush (v := nI 6) hx hb dX3_turn_8 (by decide) ?_
  refine va_csv (va_runS (As := [.int (nI how), .int (nI 6)]) (rest := []) ⟨hx, hb, hml, hown, hts⟩ (conX3_checkChoice l D T how 6 (by omega) (by omega)) (va_cwS 2 hts gX3_turn_X3_checkChoice rfl rfl rfl (by decide +kernel) ⟨Nat.le_of_ble_eq_true rfl, Nat.le_of_ble_eq_true rfl⟩) (preS hK trivial) rfl rfl hl.1 rfl (lv_room (Nat.le_of_ble_eq_true rfl)) dX3_turn_10 ⟨Nat.le_of_ble_eq_true rfl, Nat.le_of_ble_eq_true rfl⟩).run (fun _ => ?_)
  refine lv_iload_n hx hb dX3_turn_13 rfl (lv_at hl 3 rfl) ?_
  refine lv_iconst (v := nI 5) hx hb dX3_turn_14 (by decide) ?_
  refine lv_icmp_lt (tgt := 39) hx hb dX3_turn_15 (by decide) (fun c15 => ?_) (fun c15 => ?_)
  · skip
    have c15 : how < 5 := (nc_lt (a := how) (b := 5) (by omega) (by omega)).mp c15
    refine lv_aload_n hx hb dX3_turn_39 rfl (lv_at hl 1 rfl) ?_
    refine lv_aload hx hb dX3_turn_40 (lv_at hl 0 rfl) ?_
    refine lv_iload_n hx hb dX3_turn_42 rfl (lv_at hl 3 rfl) ?_
    refine lv_iload_n hx hb dX3_turn_43 rfl (lv_at hl 4 rfl) ?_
    refine va_callv (va_runV (As := [.ref (ad (22 + k)), .int (nI how), .int x]) (rest := []) ⟨hx, hb, hml, hown, hts⟩ (conX3_turnFunction l D T ad F V sr C k how nn x (by omega) (by omega) hx9) (cwV 3 hts gX3_turn_X3_turnFunction rfl rfl rfl (by decide +kernel) ⟨Nat.le_of_ble_eq_true rfl, Nat.le_of_ble_eq_true rfl⟩) (preV hK hw.o rfl hw) rfl rfl hl.1 rfl (lv_room (Nat.le_of_ble_eq_true rfl)) dX3_turn_44 ⟨Nat.le_of_ble_eq_true rfl, Nat.le_of_ble_eq_true rfl⟩) hS (fun q _ h9 => (by obtain ⟨i8, h7, h8⟩ := (show PLA ad q from h9); rw [h8]; exact hA i8 h7)) (fun q h9 => (by obtain ⟨i8, h7, h8⟩ := (show PLA ad q from h9); rw [h8]; exact hA i8 h7)) (fun u t H1 locs1 ht hvm hw9 hB hz1 hk1 hS => ?_)
    try dsimp only at hB
    rw [ht] at hB
    replace hw := hB
    refine lv_aload hx hb dX3_turn_47 (lv_at hl 0 rfl) ?_
    refine vp_callSi (va_runV (As := []) (rest := []) ⟨hx, hb, hml, hown, hts⟩ (conX2_steps l D T (ad (22 + k)) (ad (28 + k)) (trnV (va_up V 5 (copyV (V 5) (V k) 201)) k how nn)) (cwV 0 hts gX3_turn_X2_steps rfl rfl rfl (by decide +kernel) ⟨Nat.le_of_ble_eq_true rfl, Nat.le_of_ble_eq_true rfl⟩) (preV hK (hw.f k (by omega)) rfl ⟨(hw.sfU k (by omega)).1, (hw.sfU k (by omega)).2.1, (hw.sfU k (by omega)).2.2⟩) rfl rfl hl.1 rfl (lv_room (Nat.le_of_ble_eq_true rfl)) dX3_turn_49 ⟨Nat.le_of_ble_eq_true rfl, Nat.le_of_ble_eq_true rfl⟩).run (fun r2 hr2 => ?_)
    rw [hr2]
    exact W.iret (v := stepsV (trnV (va_up V 5 (copyV (V 5) (V k) 201)) k how nn) 200) hx hb hr (fun t ht _ => ⟨⟨stepsV (trnV (va_up V 5 (copyV (V 5) (V k) 201)) k how nn) 200, (), rfl, by rfl, by dsimp only; rw [ht]; exact hw⟩, hS.F ht⟩) hS.2.2 dX3_turn_52
  · skip
    have c15 : ¬ (how < 5) := fun q9 => c15 ((nc_lt (a := how) (b := 5) (by omega) (by omega)).mpr q9)
    refine lv_iload_n hx hb dX3_turn_18 rfl (lv_at hl 4 rfl) ?_
    refine lv_if_lt (tgt := 29) hx hb dX3_turn_19 (by decide) (fun c19 => ?_) (fun c19 => ?_)
    · skip
      exact absurd c19 (by rw [(hx9 (by omega)).1]; exact nI_pos (by have := (hx9 (by omega)).2; omega))
    · skip
      refine lv_iload_n hx hb dX3_turn_22 rfl (lv_at hl 4 rfl) ?_
      refine lv_sipush (v := nI 201) hx hb dX3_turn_23 (by decide) ?_
      refine lv_icmp_lt (tgt := 39) hx hb dX3_turn_26 (by decide) (fun c26 => ?_) (fun c26 => ?_)
      · skip
        refine lv_aload_n hx hb dX3_turn_39 rfl (lv_at hl 1 rfl) ?_
        refine lv_aload hx hb dX3_turn_40 (lv_at hl 0 rfl) ?_
        refine lv_iload_n hx hb dX3_turn_42 rfl (lv_at hl 3 rfl) ?_
        refine lv_iload_n hx hb dX3_turn_43 rfl (lv_at hl 4 rfl) ?_
        refine va_callv (va_runV (As := [.ref (ad (22 + k)), .int (nI how), .int x]) (rest := []) ⟨hx, hb, hml, hown, hts⟩ (conX3_turnFunction l D T ad F V sr C k how nn x (by omega) (by omega) hx9) (cwV 3 hts gX3_turn_X3_turnFunction rfl rfl rfl (by decide +kernel) ⟨Nat.le_of_ble_eq_true rfl, Nat.le_of_ble_eq_true rfl⟩) (preV hK hw.o rfl hw) rfl rfl hl.1 rfl (lv_room (Nat.le_of_ble_eq_true rfl)) dX3_turn_44 ⟨Nat.le_of_ble_eq_true rfl, Nat.le_of_ble_eq_true rfl⟩) hS (fun q _ h9 => (by obtain ⟨i8, h7, h8⟩ := (show PLA ad q from h9); rw [h8]; exact hA i8 h7)) (fun q h9 => (by obtain ⟨i8, h7, h8⟩ := (show PLA ad q from h9); rw [h8]; exact hA i8 h7)) (fun u t H1 locs1 ht hvm hw9 hB hz1 hk1 hS => ?_)
        try dsimp only at hB
        rw [ht] at hB
        replace hw := hB
        refine lv_aload hx hb dX3_turn_47 (lv_at hl 0 rfl) ?_
        refine vp_callSi (va_runV (As := []) (rest := []) ⟨hx, hb, hml, hown, hts⟩ (conX2_steps l D T (ad (22 + k)) (ad (28 + k)) (trnV (va_up V 5 (copyV (V 5) (V k) 201)) k how nn)) (cwV 0 hts gX3_turn_X2_steps rfl rfl rfl (by decide +kernel) ⟨Nat.le_of_ble_eq_true rfl, Nat.le_of_ble_eq_true rfl⟩) (preV hK (hw.f k (by omega)) rfl ⟨(hw.sfU k (by omega)).1, (hw.sfU k (by omega)).2.1, (hw.sfU k (by omega)).2.2⟩) rfl rfl hl.1 rfl (lv_room (Nat.le_of_ble_eq_true rfl)) dX3_turn_49 ⟨Nat.le_of_ble_eq_true rfl, Nat.le_of_ble_eq_true rfl⟩).run (fun r3 hr3 => ?_)
        rw [hr3]
        exact W.iret (v := stepsV (trnV (va_up V 5 (copyV (V 5) (V k) 201)) k how nn) 200) hx hb hr (fun t ht _ => ⟨⟨stepsV (trnV (va_up V 5 (copyV (V 5) (V k) 201)) k how nn) 200, (), rfl, by rfl, by dsimp only; rw [ht]; exact hw⟩, hS.F ht⟩) hS.2.2 dX3_turn_52
      · skip
        exact absurd (by rw [(hx9 (by omega)).1]; exact (nI_ltI (by have := (hx9 (by omega)).2; omega) (by omega)).mpr (by have := (hx9 (by omega)).2; omega)) c26

set_option maxHeartbeats 4000000 in
set_option maxRecDepth 100000 in
theorem conX3_best (l : Launch) (D : va_G) (T : Nat → ClassId) (ad : Nat → Nat) (F V : Nat → Nat → Int32) (sr : SRs) (C : Nat → Int32) (k : Nat) (hk : k < 5) (n : Nat) (h1 : 1 ≤ n) (h2 : n ≤ 100) : Met l yX3_best wsX3_best ({ frames := 2, cells := 0, slots := 0, locals := 45 }) (cP D T [.ref (ad 0), .int (nI k), .int (nI n)] (fun H => PLW D T ad F V sr C H)) (vp_Si (fun r => r = (bstV (V k) n (100 - n)).1)) 0 0 (fun _ => False) := by
  refine Met.ofW (cc := cX3_best) (maxL := 8) (ret := (some .int)) (by decide) rfl ?_
  intro p e s m args below meth c s₁ B hml hv9
  obtain ⟨rfl, hK, hw⟩ := hv9
  have hx := B.exec
  have hb := B.bytes
  have hr := B.returns
  have hts := atoms_spec (ws := wsX3_best) B.pre
  have hown : s.vm.findClass RX3 = some m.cls := findClass_of_methodNamed B.named
  have hlocks := B.notSynchronized
  have hl := lv_entry ([.ref (ad 0), .int (nI k), .int (nI n)]) (n := 8) (Nat.le_of_ble_eq_true rfl)
  rw [lg_entry_eq]
  generalize (lg_sl ([.ref (ad 0), .int (nI k), .int (nI n)]) ++ List.replicate (8 - (lg_sl ([.ref (ad 0), .int (nI k), .int (nI n)])).length) Slot.unset).toArray = ls at hl ⊢
  have hl : lv_has ls 8 [(0, .ref (ad 0)), (1, .int (nI k)), (2, .int (nI n))] := hl
  refine lv_aload_n hx hb dX3_best_0 rfl (lv_at hl 0 rfl) ?_
  refine lv_iload_n hx hb dX3_best_1 rfl (lv_at hl 1 rfl) ?_
  refine va_csr (ad := fun k => .ref k) (va_runV (As := [.int (nI k)]) (rest := []) ⟨hx, hb, hml, hown, hts⟩ (conX3_functionAt l D T ad F V sr C k (by omega)) (cwV 1 hts gX3_best_X3_functionAt rfl rfl rfl (by decide +kernel) ⟨Nat.le_of_ble_eq_true rfl, Nat.le_of_ble_eq_true rfl⟩) (preV hK hw.o rfl hw) rfl rfl hl.1 rfl (lv_room (Nat.le_of_ble_eq_true rfl)) dX3_best_2 ⟨Nat.le_of_ble_eq_true rfl, Nat.le_of_ble_eq_true rfl⟩).run (fun r1 hr1 => ?_)
  subst hr1
  refine lv_astore_n (lv' := [(3, .ref (ad (22 + k))), (0, .ref (ad 0)), (1, .int (nI k)), (2, .int (nI n))]) hx hb dX3_best_5 rfl hl (by decide) rfl (fun ls hl => ?_)
  refine lv_iload_n hx hb dX3_best_6 rfl (lv_at hl 3 rfl) ?_
  refine lv_iconst (v := nI 1) hx hb dX3_best_7 (by decide) ?_
  refine lv_icmp_lt (tgt := 17) hx hb dX3_best_8 (by decide) (fun c8 => ?_) (fun c8 => ?_)
  · skip
    have c8 : n < 1 := (nc_lt (a := n) (b := 1) (by omega) (by omega)).mp c8
    omega
  · skip
    have c8 : ¬ (n < 1) := fun q9 => c8 ((nc_lt (a := n) (b := 1) (by omega) (by omega)).mpr q9)
    refine lv_iload_n hx hb dX3_best_11 rfl (lv_at hl 3 rfl) ?_
    refine lv_bipush (v := nI 100) hx hb dX3_best_12 (by decide) ?_
    refine lv_icmp_le (tgt := 27) hx hb dX3_best_14 (by decide) (fun c14 => ?_) (fun c14 => ?_)
    · skip
      have c14 : n ≤ 100 := (nc_le (a := n) (b := 100) (by omega) (by omega)).mp c14
      refine lv_iconst (v := nI 0) hx hb dX3_best_27 (by decide) ?_
      refine lv_istore (lv' := [(4, .int (nI 0)), (3, .ref (ad (22 + k))), (0, .ref (ad 0)), (1, .int (nI k)), (2, .int (nI n))]) hx hb dX3_best_28 hl (by decide) rfl (fun ls hl => ?_)
      refine lv_aload_n hx hb dX3_best_30 rfl (lv_at hl 1 rfl) ?_
      refine lv_iconst (v := nI 0) hx hb dX3_best_31 (by decide) ?_
      refine lv_iload_n hx hb dX3_best_32 rfl (lv_at hl 4 rfl) ?_
      refine vp_callSi (va_runS (As := [.ref (ad (22 + k)), .int (nI 0), .int (nI n)]) (rest := []) ⟨hx, hb, hml, hown, hts⟩ (conX3_areaBetween l D T ad F V sr C k 0 n (by omega) (by omega) (by omega)) (va_cwS 3 hts gX3_best_X3_areaBetween rfl rfl rfl (by decide +kernel) ⟨Nat.le_of_ble_eq_true rfl, Nat.le_of_ble_eq_true rfl⟩) (preS hK hw) rfl rfl hl.1 rfl (lv_room (Nat.le_of_ble_eq_true rfl)) dX3_best_33 ⟨Nat.le_of_ble_eq_true rfl, Nat.le_of_ble_eq_true rfl⟩).run (fun r2 hr2 => ?_)
      rw [hr2]
      refine lv_istore (lv' := [(5, .int (arwV (V k) 0 (n - 0))), (4, .int (nI 0)), (3, .ref (ad (22 + k))), (0, .ref (ad 0)), (1, .int (nI k)), (2, .int (nI n))]) hx hb dX3_best_36 hl (by decide) rfl (fun ls hl => ?_)
      refine lv_iconst (v := nI 1) hx hb dX3_best_38 (by decide) ?_
      refine lv_istore (lv' := [(6, .int (nI 1)), (5, .int (arwV (V k) 0 (n - 0))), (4, .int (nI 0)), (3, .ref (ad (22 + k))), (0, .ref (ad 0)), (1, .int (nI k)), (2, .int (nI n))]) hx hb dX3_best_39 hl (by decide) rfl (fun ls hl => ?_)
      refine q_for (fun (i : Nat) (H : Heap) (locs : List Loc) (ls : Array Slot) => H = s.heap ∧ locs = [] ∧ lv_has ls 8 [(6, .int (nI (i + 1))), (5, .int ((bstV (V k) n i).2)), (4, .int ((bstV (V k) n i).1)), (3, .ref (ad (22 + k))), (0, .ref (ad 0)), (1, .int (nI k)), (2, .int (nI n))]) (N := (100 - n)) 0 (by omega) ?_ ?_ ?_
      · skip
        have e3 : arwV (V k) 0 (n - 0) = (bstV (V k) n 0).2 := by rfl
        have e4 : nI 0 = (bstV (V k) n 0).1 := by rfl
        exact ⟨rfl, rfl, lv_sub (lv_ex (lv_ex hl 1 rfl (congrArg Value.int e3)) 2 rfl (congrArg Value.int e4)) [0, 1, 2, 3, 4, 5, 6] rfl⟩
      · skip
        intro i H locs ls hi9 hin9 hnext
        obtain ⟨rfl, rfl, hl⟩ := hin9
        refine lv_iload hx hb dX3_best_41 (lv_at hl 0 rfl) ?_
        refine lv_bipush (v := nI 100) hx hb dX3_best_43 (by decide) ?_
        refine lv_iload_n hx hb dX3_best_45 rfl (lv_at hl 6 rfl) ?_
        refine lv_isub hx hb dX3_best_46 ?_
        refine lv_icmp_gt (tgt := 83) hx hb dX3_best_47 (by decide) (fun c47 => ?_) (fun c47 => ?_)
        · skip
          have c47 : 100 - n < i + 1 := (bst_c h2 (by omega)).mp c47
          omega
        · skip
          have c47 : ¬ (100 - n < i + 1) := fun q9 => c47 ((bst_c h2 (by omega)).mpr q9)
          refine lv_aload_n hx hb dX3_best_50 rfl (lv_at hl 3 rfl) ?_
          refine lv_iload hx hb dX3_best_51 (lv_at hl 0 rfl) ?_
          refine lv_iload hx hb dX3_best_53 (lv_at hl 0 rfl) ?_
          refine lv_iload_n hx hb dX3_best_55 rfl (lv_at hl 6 rfl) ?_
          refine lv_iadd hx hb dX3_best_56 ?_
          rw [nI_add]
          refine vp_callSi (va_runS (As := [.ref (ad (22 + k)), .int (nI (i + 1)), .int (nI (i + 1 + n))]) (rest := []) ⟨hx, hb, hml, hown, hts⟩ (conX3_areaBetween l D T ad F V sr C k (i + 1) (i + 1 + n) (by omega) (by omega) (by omega)) (va_cwS 3 hts gX3_best_X3_areaBetween rfl rfl rfl (by decide +kernel) ⟨Nat.le_of_ble_eq_true rfl, Nat.le_of_ble_eq_true rfl⟩) (preS hK hw) rfl rfl hl.1 rfl (lv_room (Nat.le_of_ble_eq_true rfl)) dX3_best_57 ⟨Nat.le_of_ble_eq_true rfl, Nat.le_of_ble_eq_true rfl⟩).run (fun r5 hr5 => ?_)
          rw [hr5]
          refine lv_istore (lv' := [(7, .int (arwV (V k) (i + 1) ((i + 1 + n) - (i + 1)))), (6, .int (nI (i + 1))), (5, .int ((bstV (V k) n i).2)), (4, .int ((bstV (V k) n i).1)), (3, .ref (ad (22 + k))), (0, .ref (ad 0)), (1, .int (nI k)), (2, .int (nI n))]) hx hb dX3_best_60 hl (by decide) rfl (fun ls hl => ?_)
          refine lv_iload hx hb dX3_best_62 (lv_at hl 0 rfl) ?_
          refine lv_iload hx hb dX3_best_64 (lv_at hl 2 rfl) ?_
          refine lv_icmp_le (tgt := 77) hx hb dX3_best_66 (by decide) (fun c66 => ?_) (fun c66 => ?_)
          · skip
            refine lv_iinc (v := nI (i + 1 + 1)) (lv' := [(6, .int (nI (i + 1 + 1))), (7, .int (arwV (V k) (i + 1) ((i + 1 + n) - (i + 1)))), (5, .int ((bstV (V k) n i).2)), (4, .int ((bstV (V k) n i).1)), (3, .ref (ad (22 + k))), (0, .ref (ad 0)), (1, .int (nI k)), (2, .int (nI n))]) hx hb dX3_best_77 hl (k := 1) rfl (inc_1 _) (by decide) rfl (fun ls hl => ?_)
            refine lv_goto (tgt := 41) hx hb dX3_best_80 (by decide) ?_
            have e6 : nI (i + 1 + 1) = nI ((i + 1) + 1) := by rfl
            have e7 : (bstV (V k) n i).2 = (bstV (V k) n (i + 1)).2 := by first | (rw [bstV_s, if_pos c66]; done) | (rw [bstV_s, if_neg c66]; done)
            have e8 : (bstV (V k) n i).1 = (bstV (V k) n (i + 1)).1 := by first | (rw [bstV_s, if_pos c66]; done) | (rw [bstV_s, if_neg c66]; done)
            exact hnext _ _ _ ⟨rfl, rfl, lv_sub (lv_ex (lv_ex (lv_ex hl 0 rfl (congrArg Value.int e6)) 2 rfl (congrArg Value.int e7)) 3 rfl (congrArg Value.int e8)) [0, 2, 3, 4, 5, 6, 7] rfl⟩
          · skip
            refine lv_iload hx hb dX3_best_69 (lv_at hl 1 rfl) ?_
            refine lv_istore (lv' := [(4, .int (nI (i + 1))), (7, .int (arwV (V k) (i + 1) ((i + 1 + n) - (i + 1)))), (6, .int (nI (i + 1))), (5, .int ((bstV (V k) n i).2)), (3, .ref (ad (22 + k))), (0, .ref (ad 0)), (1, .int (nI k)), (2, .int (nI n))]) hx hb dX3_best_71 hl (by decide) rfl (fun ls hl => ?_)
            refine lv_iload hx hb dX3_best_73 (lv_at hl 1 rfl) ?_
            refine lv_istore (lv' := [(5, .int (arwV (V k) (i + 1) ((i + 1 + n) - (i + 1)))), (4, .int (nI (i + 1))), (7, .int (arwV (V k) (i + 1) ((i + 1 + n) - (i + 1)))), (6, .int (nI (i + 1))), (3, .ref (ad (22 + k))), (0, .ref (ad 0)), (1, .int (nI k)), (2, .int (nI n))]) hx hb dX3_best_75 hl (by decide) rfl (fun ls hl => ?_)
            refine lv_iinc (v := nI (i + 1 + 1)) (lv' := [(6, .int (nI (i + 1 + 1))), (5, .int (arwV (V k) (i + 1) ((i + 1 + n) - (i + 1)))), (4, .int (nI (i + 1))), (7, .int (arwV (V k) (i + 1) ((i + 1 + n) - (i + 1)))), (3, .ref (ad (22 + k))), (0, .ref (ad 0)), (1, .int (nI k)), (2, .int (nI n))]) hx hb dX3_best_77 hl (k := 3) rfl (inc_1 _) (by decide) rfl (fun ls hl => ?_)
            refine lv_goto (tgt := 41) hx hb dX3_best_80 (by decide) ?_
            have e9 : nI (i + 1 + 1) = nI ((i + 1) + 1) := by rfl
            have e10 : arwV (V k) (i + 1) ((i + 1 + n) - (i + 1)) = (bstV (V k) n (i + 1)).2 := by first | (rw [bstV_s, if_pos c66]; done) | (rw [bstV_s, if_neg c66]; done)
            have e11 : nI (i + 1) = (bstV (V k) n (i + 1)).1 := by first | (rw [bstV_s, if_pos c66]; done) | (rw [bstV_s, if_neg c66]; done)
            exact hnext _ _ _ ⟨rfl, rfl, lv_sub (lv_ex (lv_ex (lv_ex hl 0 rfl (congrArg Value.int e9)) 1 rfl (congrArg Value.int e10)) 2 rfl (congrArg Value.int e11)) [0, 1, 2, 4, 5, 6, 7] rfl⟩
      · skip
        intro H locs ls hin9
        obtain ⟨rfl, rfl, hl⟩ := hin9
        refine lv_iload hx hb dX3_best_41 (lv_at hl 0 rfl) ?_
        refine lv_bipush (v := nI 100) hx hb dX3_best_43 (by decide) ?_
        refine lv_iload_n hx hb dX3_best_45 rfl (lv_at hl 6 rfl) ?_
        refine lv_isub hx hb dX3_best_46 ?_
        refine lv_icmp_gt (tgt := 83) hx hb dX3_best_47 (by decide) (fun c47 => ?_) (fun c47 => ?_)
        · skip
          have c47 : 100 - n < (100 - n) + 1 := (bst_c h2 (by omega)).mp c47
          refine lv_iload hx hb dX3_best_83 (lv_at hl 2 rfl) ?_
          exact W.iret (v := (bstV (V k) n (100 - n)).1) hx hb hr (fun t ht _ => ⟨(bstV (V k) n (100 - n)).1, rfl, by rfl, ht⟩) (fun q hq => absurd hq List.not_mem_nil) dX3_best_85
        · skip
          have c47 : ¬ (100 - n < (100 - n) + 1) := fun q9 => c47 ((bst_c h2 (by omega)).mpr q9)
          omega
    · skip
      have c14 : ¬ (n ≤ 100) := fun q9 => c14 ((nc_le (a := n) (b := 100) (by omega) (by omega)).mpr q9)
      omega
