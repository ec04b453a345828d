set_option maxHeartbeats 4000000 in
set_option maxRecDepth 100000 in
theorem conX3_factOfSet (l : Launch) (D : va_G) (T : Nat → ClassId) (ad : Nat → Nat) (F V : Nat → Nat → Int32) (sr : SRs) (C : Nat → Int32) (k w : Nat) (hk : k < 9) (hw9 : w ≤ 5) (hsn : sr.2.2 ≤ 201) : Met l yX3_factOfSet wsX3_factOfSet ({ frames := 4, cells := 0, slots := 0, locals := 86 }) (cP D T [.ref (ad 0), .ref (ad (4 + k)), .int (nI w)] (fun H => PLW D T ad F V sr C H)) (va_Qi (fun (r : Int32) (_ : Unit) => r = facSv (F k) w sr) (fun _ t => PLW D T ad F V (facSr (F k) w sr) C t.heap) (PLA ad)) 0 0 (PLA ad) := by
  refine Met.ofW (cc := cX3_factOfSet) (maxL := 3) (ret := (some .int)) (by decide) rfl ?_
  intro p e s m args below meth c s₁ B hml hv9
  obtain ⟨rfl, hK, hw⟩ := hv9
  have hx := B.exec
  have hb := B.bytes
  have hr := B.returns
  have hts := atoms_spec (ws := wsX3_factOfSet) B.pre
  have hown : s.vm.findClass RX3 = some m.cls := findClass_of_methodNamed B.named
  have hlocks := B.notSynchronized
  have hin3 : ∀ w ∈ wsX30, w ∈ wsX3_factOfSet := by decide +kernel
  generalize hAe : (PLA ad) = A
  have hA : ∀ i : Nat, i < 37 → A (ad i) := fun i hi => by subst hAe; exact ⟨i, hi, rfl⟩
  have hS : va_S A s.heap s.heap [] := va_S.rf
  have hl := lv_entry ([.ref (ad 0), .ref (ad (4 + k)), .int (nI w)]) (n := 3) (Nat.le_of_ble_eq_true rfl)
  rw [lg_entry_eq]
  generalize (lg_sl ([.ref (ad 0), .ref (ad (4 + k)), .int (nI w)]) ++ List.replicate (3 - (lg_sl ([.ref (ad 0), .ref (ad (4 + k)), .int (nI w)])).length) Slot.unset).toArray = ls at hl ⊢
  have hl : lv_has ls 3 [(0, .ref (ad 0)), (1, .ref (ad (4 + k))), (2, .int (nI w))] := hl
  refine lv_iload_n hx hb dX3_factOfSet_0 rfl (lv_at hl 2 rfl) ?_
  by_cases e1_0 : w = 0
  · skip
    refine lv_tableIn (off := 35) (tgt := 36) hx hb dX3_factOfSet_1 (by rw [e1_0]; decide) (by rw [e1_0]; decide) (by rw [e1_0]; rfl) (by decide) ?_
    refine lv_aload_n hx hb dX3_factOfSet_36 rfl (lv_at hl 1 rfl) ?_
    refine vp_callSi (va_runV (As := []) (rest := []) ⟨hx, hb, hml, hown, hts⟩ (conX0_count l D T (ad (4 + k)) (ad (13 + k)) (F k)) (cwV 0 hts gX3_factOfSet_X0_count rfl rfl rfl (by decide +kernel) ⟨Nat.le_of_ble_eq_true rfl, Nat.le_of_ble_eq_true rfl⟩) (preV hK (hw.g k (by omega)) rfl ⟨(hw.gs k (by omega)).1, (hw.gs k (by omega)).2.1, (hw.gs k (by omega)).2.2⟩) rfl rfl hl.1 rfl (lv_room (Nat.le_of_ble_eq_true rfl)) dX3_factOfSet_37 ⟨Nat.le_of_ble_eq_true rfl, Nat.le_of_ble_eq_true rfl⟩).run (fun r1 hr1 => ?_)
    rw [hr1]
    exact W.iret (v := cntZ (F k) 201) hx hb hr (fun t ht _ => ⟨⟨cntZ (F k) 201, (), rfl, by (rw [facSv, if_pos e1_0]; try rfl), by dsimp only; rw [ht]; exact (by rw [facSr, if_pos e1_0]; exact hw)⟩, hS.F ht⟩) hS.2.2 dX3_factOfSet_40
  by_cases e1_1 : w = 1
  · skip
    refine lv_tableIn (off := 40) (tgt := 41) hx hb dX3_factOfSet_1 (by rw [e1_1]; decide) (by rw [e1_1]; decide) (by rw [e1_1]; rfl) (by decide) ?_
    refine lv_aload_n hx hb dX3_factOfSet_41 rfl (lv_at hl 0 rfl) ?_
    refine q_get (v := .ref (ad 3)) hx hb hts hin3 hown hK hw.o rfl 4 (by decide) (hts (.fieldLink RX3 34 "PuddingstoneLine" "spanRow" "LPuddingstoneLine$SpanRow;") (by decide +kernel)) (fun _ h9 => h9) rfl dX3_factOfSet_42 ?_
    refine lv_aload_n hx hb dX3_factOfSet_45 rfl (lv_at hl 1 rfl) ?_
    refine lv_iconst (v := nI 1) hx hb dX3_factOfSet_46 (by decide) ?_
    refine va_callv (va_runV (As := [.ref (ad (4 + k)), .int (nI 1)]) (rest := []) ⟨hx, hb, hml, hown, hts⟩ (conX1_readRuns l D T (ad 3) (ad 34) (ad 35) sr.1 sr.2.1 sr.2.2 hw.1.sr3 hsn (ad (4 + k)) (ad (13 + k)) (F k) (nI 1) (hw.1.nsr (4 + k) (by omega) ⟨by omega, by omega, by omega⟩) (hw.1.nsr (13 + k) (by omega) ⟨by omega, by omega, by omega⟩)) (cwV 2 hts gX3_factOfSet_X1_readRuns rfl rfl rfl (by decide +kernel) ⟨Nat.le_of_ble_eq_true rfl, Nat.le_of_ble_eq_true rfl⟩) (preV hK hw.srr.1 rfl ⟨hw.srr, (hw.gs k (by omega)).1, (hw.gs k (by omega)).2.1, (hw.gs k (by omega)).2.2⟩) rfl rfl hl.1 rfl (lv_room (Nat.le_of_ble_eq_true rfl)) dX3_factOfSet_47 ⟨Nat.le_of_ble_eq_true rfl, Nat.le_of_ble_eq_true rfl⟩) hS (fun q _ h9 => (by rcases (show q = ad 3 ∨ q = ad 34 ∨ q = ad 35 from h9) with h8 | h8 | h8 <;> rw [h8]; exact hA 3 (by omega); exact hA 34 (by omega); exact hA 35 (by omega))) (fun q h9 => (by rcases (show q = ad 3 ∨ q = ad 34 ∨ q = ad 35 from h9) with h8 | h8 | h8 <;> rw [h8]; exact hA 3 (by omega); exact hA 34 (by omega); exact hA 35 (by omega))) (fun u t H1 locs1 ht hvm hw9 hB hz1 hk1 hS => ?_)
    try dsimp only at hB
    rw [ht] at hB
    replace hw := hw.setR (sr' := rrR (F k) (nI 1) sr 201) hB (fun q h1 h2 => hk1 q h1 h2)
    refine lv_aload_n hx hb dX3_factOfSet_50 rfl (lv_at hl 0 rfl) ?_
    refine q_get (v := .ref (ad 3)) hx hb hts hin3 hown hK hw.o rfl 4 (by decide) (hts (.fieldLink RX3 34 "PuddingstoneLine" "spanRow" "LPuddingstoneLine$SpanRow;") (by decide +kernel)) (fun _ h9 => h9) rfl dX3_factOfSet_51 ?_
    refine vp_callSi (va_runV (As := []) (rest := []) ⟨hx, hb, hml, hown, hts⟩ (conX1_size l D T (ad 3) (ad 34) (ad 35) (rrR (F k) (nI 1) sr 201).1 (rrR (F k) (nI 1) sr 201).2.1 (rrR (F k) (nI 1) sr 201).2.2 hw.1.sr3 (rrR_le _ _ _ _)) (cwV 0 hts gX3_factOfSet_X1_size rfl rfl rfl (by decide +kernel) ⟨Nat.le_of_ble_eq_true rfl, Nat.le_of_ble_eq_true rfl⟩) (preV hK hw.srr.1 rfl hw.srr) rfl rfl hl.1 rfl (lv_room (Nat.le_of_ble_eq_true rfl)) dX3_factOfSet_54 ⟨Nat.le_of_ble_eq_true rfl, Nat.le_of_ble_eq_true rfl⟩).run (fun r2 hr2 => ?_)
    rw [hr2]
    exact W.iret (v := nI ((rrR (F k) (nI 1) sr 201).2.2)) hx hb hr (fun t ht _ => ⟨⟨nI ((rrR (F k) (nI 1) sr 201).2.2), (), rfl, by (rw [facSv, if_neg (by omega), if_pos e1_1]; try rfl), by dsimp only; rw [ht]; exact (by rw [facSr, if_neg (by omega), if_pos e1_1]; exact hw)⟩, hS.F ht⟩) hS.2.2 dX3_factOfSet_57
  by_cases e1_2 : w = 2
  · skip
    refine lv_tableIn (off := 57) (tgt := 58) hx hb dX3_factOfSet_1 (by rw [e1_2]; decide) (by rw [e1_2]; decide) (by rw [e1_2]; rfl) (by decide) ?_
    refine lv_aload_n hx hb dX3_factOfSet_58 rfl (lv_at hl 1 rfl) ?_
    refine vp_callSi (va_runV (As := []) (rest := []) ⟨hx, hb, hml, hown, hts⟩ (conX0_length l D T (ad (4 + k)) (ad (13 + k)) (F k)) (cwV 0 hts gX3_factOfSet_X0_length rfl rfl rfl (by decide +kernel) ⟨Nat.le_of_ble_eq_true rfl, Nat.le_of_ble_eq_true rfl⟩) (preV hK (hw.g k (by omega)) rfl ⟨(hw.gs k (by omega)).1, (hw.gs k (by omega)).2.1, (hw.gs k (by omega)).2.2⟩) rfl rfl hl.1 rfl (lv_room (Nat.le_of_ble_eq_true rfl)) dX3_factOfSet_59 ⟨Nat.le_of_ble_eq_true rfl, Nat.le_of_ble_eq_true rfl⟩).run (fun r3 hr3 => ?_)
    rw [hr3]
    exact W.iret (v := lenZ (F k) 100) hx hb hr (fun t ht _ => ⟨⟨lenZ (F k) 100, (), rfl, by (rw [facSv, if_neg (by omega), if_neg (by omega), if_pos e1_2]; try rfl), by dsimp only; rw [ht]; exact (by rw [facSr, if_neg (by omega), if_neg (by omega), if_pos e1_2]; exact hw)⟩, hS.F ht⟩) hS.2.2 dX3_factOfSet_62
  by_cases e1_3 : w = 3
  · skip
    refine lv_tableIn (off := 62) (tgt := 63) hx hb dX3_factOfSet_1 (by rw [e1_3]; decide) (by rw [e1_3]; decide) (by rw [e1_3]; rfl) (by decide) ?_
    refine lv_aload_n hx hb dX3_factOfSet_63 rfl (lv_at hl 0 rfl) ?_
    refine q_get (v := .ref (ad 3)) hx hb hts hin3 hown hK hw.o rfl 4 (by decide) (hts (.fieldLink RX3 34 "PuddingstoneLine" "spanRow" "LPuddingstoneLine$SpanRow;") (by decide +kernel)) (fun _ h9 => h9) rfl dX3_factOfSet_64 ?_
    refine lv_aload_n hx hb dX3_factOfSet_67 rfl (lv_at hl 1 rfl) ?_
    refine lv_iconst (v := nI 1) hx hb dX3_factOfSet_68 (by decide) ?_
    refine va_callv (va_runV (As := [.ref (ad (4 + k)), .int (nI 1)]) (rest := []) ⟨hx, hb, hml, hown, hts⟩ (conX1_readRuns l D T (ad 3) (ad 34) (ad 35) sr.1 sr.2.1 sr.2.2 hw.1.sr3 hsn (ad (4 + k)) (ad (13 + k)) (F k) (nI 1) (hw.1.nsr (4 + k) (by omega) ⟨by omega, by omega, by omega⟩) (hw.1.nsr (13 + k) (by omega) ⟨by omega, by omega, by omega⟩)) (cwV 2 hts gX3_factOfSet_X1_readRuns rfl rfl rfl (by decide +kernel) ⟨Nat.le_of_ble_eq_true rfl, Nat.le_of_ble_eq_true rfl⟩) (preV hK hw.srr.1 rfl ⟨hw.srr, (hw.gs k (by omega)).1, (hw.gs k (by omega)).2.1, (hw.gs k (by omega)).2.2⟩) rfl rfl hl.1 rfl (lv_room (Nat.le_of_ble_eq_true rfl)) dX3_factOfSet_69 ⟨Nat.le_of_ble_eq_true rfl, Nat.le_of_ble_eq_true rfl⟩) hS (fun q _ h9 => (by rcases (show q = ad 3 ∨ q = ad 34 ∨ q = ad 35 from h9) with h8 | h8 | h8 <;> rw [h8]; exact hA 3 (by omega); exact hA 34 (by omega); exact hA 35 (by omega))) (fun q h9 => (by rcases (show q = ad 3 ∨ q = ad 34 ∨ q = ad 35 from h9) with h8 | h8 | h8 <;> rw [h8]; exact hA 3 (by omega); exact hA 34 (by omega); exact hA 35 (by omega))) (fun u t H1 locs1 ht hvm hw9 hB hz1 hk1 hS => ?_)
    try dsimp only at hB
    rw [ht] at hB
    replace hw := hw.setR (sr' := rrR (F k) (nI 1) sr 201) hB (fun q h1 h2 => hk1 q h1 h2)
    refine lv_aload_n hx hb dX3_factOfSet_72 rfl (lv_at hl 0 rfl) ?_
    refine q_get (v := .ref (ad 3)) hx hb hts hin3 hown hK hw.o rfl 4 (by decide) (hts (.fieldLink RX3 34 "PuddingstoneLine" "spanRow" "LPuddingstoneLine$SpanRow;") (by decide +kernel)) (fun _ h9 => h9) rfl dX3_factOfSet_73 ?_
    refine vp_callSi (va_runV (As := []) (rest := []) ⟨hx, hb, hml, hown, hts⟩ (conX1_lonePoints l D T (ad 3) (ad 34) (ad 35) (rrR (F k) (nI 1) sr 201).1 (rrR (F k) (nI 1) sr 201).2.1 (rrR (F k) (nI 1) sr 201).2.2 hw.1.sr3 (rrR_le _ _ _ _)) (cwV 0 hts gX3_factOfSet_X1_lonePoints rfl rfl rfl (by decide +kernel) ⟨Nat.le_of_ble_eq_true rfl, Nat.le_of_ble_eq_true rfl⟩) (preV hK hw.srr.1 rfl hw.srr) rfl rfl hl.1 rfl (lv_room (Nat.le_of_ble_eq_true rfl)) dX3_factOfSet_76 ⟨Nat.le_of_ble_eq_true rfl, Nat.le_of_ble_eq_true rfl⟩).run (fun r4 hr4 => ?_)
    rw [hr4]
    exact W.iret (v := lonR (rrR (F k) (nI 1) sr 201) (rrR (F k) (nI 1) sr 201).2.2) hx hb hr (fun t ht _ => ⟨⟨lonR (rrR (F k) (nI 1) sr 201) (rrR (F k) (nI 1) sr 201).2.2, (), rfl, by (rw [facSv, if_neg (by omega), if_neg (by omega), if_neg (by omega), if_pos e1_3]; try rfl), by dsimp only; rw [ht]; exact (by rw [facSr, if_neg (by omega), if_neg (by omega), if_neg (by omega), if_pos e1_3]; exact hw)⟩, hS.F ht⟩) hS.2.2 dX3_factOfSet_79
  by_cases e1_4 : w = 4
  · skip
    refine lv_tableIn (off := 79) (tgt := 80) hx hb dX3_factOfSet_1 (by rw [e1_4]; decide) (by rw [e1_4]; decide) (by rw [e1_4]; rfl) (by decide) ?_
    refine lv_aload_n hx hb dX3_factOfSet_80 rfl (lv_at hl 0 rfl) ?_
    refine q_get (v := .ref (ad 3)) hx hb hts hin3 hown hK hw.o rfl 4 (by decide) (hts (.fieldLink RX3 34 "PuddingstoneLine" "spanRow" "LPuddingstoneLine$SpanRow;") (by decide +kernel)) (fun _ h9 => h9) rfl dX3_factOfSet_81 ?_
    refine lv_aload_n hx hb dX3_factOfSet_84 rfl (lv_at hl 1 rfl) ?_
    refine lv_iconst (v := nI 0) hx hb dX3_factOfSet_85 (by decide) ?_
    refine va_callv (va_runV (As := [.ref (ad (4 + k)), .int (nI 0)]) (rest := []) ⟨hx, hb, hml, hown, hts⟩ (conX1_readRuns l D T (ad 3) (ad 34) (ad 35) sr.1 sr.2.1 sr.2.2 hw.1.sr3 hsn (ad (4 + k)) (ad (13 + k)) (F k) (nI 0) (hw.1.nsr (4 + k) (by omega) ⟨by omega, by omega, by omega⟩) (hw.1.nsr (13 + k) (by omega) ⟨by omega, by omega, by omega⟩)) (cwV 2 hts gX3_factOfSet_X1_readRuns rfl rfl rfl (by decide +kernel) ⟨Nat.le_of_ble_eq_true rfl, Nat.le_of_ble_eq_true rfl⟩) (preV hK hw.srr.1 rfl ⟨hw.srr, (hw.gs k (by omega)).1, (hw.gs k (by omega)).2.1, (hw.gs k (by omega)).2.2⟩) rfl rfl hl.1 rfl (lv_room (Nat.le_of_ble_eq_true rfl)) dX3_factOfSet_86 ⟨Nat.le_of_ble_eq_true rfl, Nat.le_of_ble_eq_true rfl⟩) hS (fun q _ h9 => (by rcases (show q = ad 3 ∨ q = ad 34 ∨ q = ad 35 from h9) with h8 | h8 | h8 <;> rw [h8]; exact hA 3 (by omega); exact hA 34 (by omega); exact hA 35 (by omega))) (fun q h9 => (by rcases (show q = ad 3 ∨ q = ad 34 ∨ q = ad 35 from h9) with h8 | h8 | h8 <;> rw [h8]; exact hA 3 (by omega); exact hA 34 (by omega); exact hA 35 (by omega))) (fun u t H1 locs1 ht hvm hw9 hB hz1 hk1 hS => ?_)
    try dsimp only at hB
    rw [ht] at hB
    replace hw := hw.setR (sr' := rrR (F k) (nI 0) sr 201) hB (fun q h1 h2 => hk1 q h1 h2)
    refine lv_aload_n hx hb dX3_factOfSet_89 rfl (lv_at hl 0 rfl) ?_
    refine q_get (v := .ref (ad 3)) hx hb hts hin3 hown hK hw.o rfl 4 (by decide) (hts (.fieldLink RX3 34 "PuddingstoneLine" "spanRow" "LPuddingstoneLine$SpanRow;") (by decide +kernel)) (fun _ h9 => h9) rfl dX3_factOfSet_90 ?_
    refine vp_callSi (va_runV (As := []) (rest := []) ⟨hx, hb, hml, hown, hts⟩ (conX1_size l D T (ad 3) (ad 34) (ad 35) (rrR (F k) (nI 0) sr 201).1 (rrR (F k) (nI 0) sr 201).2.1 (rrR (F k) (nI 0) sr 201).2.2 hw.1.sr3 (rrR_le _ _ _ _)) (cwV 0 hts gX3_factOfSet_X1_size rfl rfl rfl (by decide +kernel) ⟨Nat.le_of_ble_eq_true rfl, Nat.le_of_ble_eq_true rfl⟩) (preV hK hw.srr.1 rfl hw.srr) rfl rfl hl.1 rfl (lv_room (Nat.le_of_ble_eq_true rfl)) dX3_factOfSet_93 ⟨Nat.le_of_ble_eq_true rfl, Nat.le_of_ble_eq_true rfl⟩).run (fun r5 hr5 => ?_)
    rw [hr5]
    exact W.iret (v := nI ((rrR (F k) (nI 0) sr 201).2.2)) hx hb hr (fun t ht _ => ⟨⟨nI ((rrR (F k) (nI 0) sr 201).2.2), (), rfl, by (rw [facSv, if_neg (by omega), if_neg (by omega), if_neg (by omega), if_neg (by omega), if_pos e1_4]; try rfl), by dsimp only; rw [ht]; exact (by rw [facSr, if_neg (by omega), if_neg (by omega), if_neg (by omega), if_neg (by omega)]; exact hw)⟩, hS.F ht⟩) hS.2.2 dX3_factOfSet_96
  refine lv_tableOut (tgt := 97) hx hb dX3_factOfSet_1 (Or.inr (by rw [nI_toInt (by omega)]; omega)) (by decide) ?_
  refine lv_aload_n hx hb dX3_factOfSet_97 rfl (lv_at hl 0 rfl) ?_
  refine q_get (v := .ref (ad 3)) hx hb hts hin3 hown hK hw.o rfl 4 (by decide) (hts (.fieldLink RX3 34 "PuddingstoneLine" "spanRow" "LPuddingstoneLine$SpanRow;") (by decide +kernel)) (fun _ h9 => h9) rfl dX3_factOfSet_98 ?_
  refine lv_aload_n hx hb dX3_factOfSet_101 rfl (lv_at hl 1 rfl) ?_
  refine lv_iconst (v := nI 0) hx hb dX3_factOfSet_102 (by decide) ?_
  refine va_callv (va_runV (As := [.ref (ad (4 + k)), .int (nI 0)]) (rest := []) ⟨hx, hb, hml, hown, hts⟩ (conX1_readRuns l D T (ad 3) (ad 34) (ad 35) sr.1 sr.2.1 sr.2.2 hw.1.sr3 hsn (ad (4 + k)) (ad (13 + k)) (F k) (nI 0) (hw.1.nsr (4 + k) (by omega) ⟨by omega, by omega, by omega⟩) (hw.1.nsr (13 + k) (by omega) ⟨by omega, by omega, by omega⟩)) (cwV 2 hts gX3_factOfSet_X1_readRuns rfl rfl rfl (by decide +kernel) ⟨Nat.le_of_ble_eq_true rfl, Nat.le_of_ble_eq_true rfl⟩) (preV hK hw.srr.1 rfl ⟨hw.srr, (hw.gs k (by omega)).1, (hw.gs k (by omega)).2.1, (hw.gs k (by omega)).2.2⟩) rfl rfl hl.1 rfl (lv_room (Nat.le_of_ble_eq_true rfl)) dX3_factOfSet_103 ⟨Nat.le_of_ble_eq_true rfl, Nat.le_of_ble_eq_true rfl⟩) hS (fun q _ h9 => (by rcases (show q = ad 3 ∨ q = ad 34 ∨ q = ad 35 from h9) with h8 | h8 | h8 <;> rw [h8]; exact hA 3 (by omega); exact hA 34 (by omega); exact hA 35 (by omega))) (fun q h9 => (by rcases (show q = ad 3 ∨ q = ad 34 ∨ q = ad 35 from h9) with h8 | h8 | h8 <;> rw [h8]; exact hA 3 (by omega); exact hA 34 (by omega); exact hA 35 (by omega))) (fun u t H1 locs1 ht hvm hw9 hB hz1 hk1 hS => ?_)
  try dsimp only at hB
  rw [ht] at hB
  replace hw := hw.setR (sr' := rrR (F k) (nI 0) sr 201) hB (fun q h1 h2 => hk1 q h1 h2)
  refine lv_aload_n hx hb dX3_factOfSet_106 rfl (lv_at hl 0 rfl) ?_
  refine q_get (v := .ref (ad 3)) hx hb hts hin3 hown hK hw.o rfl 4 (by decide) (hts (.fieldLink RX3 34 "PuddingstoneLine" "spanRow" "LPuddingstoneLine$SpanRow;") (by decide +kernel)) (fun _ h9 => h9) rfl dX3_factOfSet_107 ?_
  refine lv_aload_n hx hb dX3_factOfSet_110 rfl (lv_at hl 0 rfl) ?_
  refine q_get (v := .ref (ad 3)) hx hb hts hin3 hown hK hw.o rfl 4 (by decide) (hts (.fieldLink RX3 34 "PuddingstoneLine" "spanRow" "LPuddingstoneLine$SpanRow;") (by decide +kernel)) (fun _ h9 => h9) rfl dX3_factOfSet_111 ?_
  refine vp_callSi (va_runV (As := []) (rest := [.ref (ad 3)]) ⟨hx, hb, hml, hown, hts⟩ (conX1_longest l D T (ad 3) (ad 34) (ad 35) (rrR (F k) (nI 0) sr 201).1 (rrR (F k) (nI 0) sr 201).2.1 (rrR (F k) (nI 0) sr 201).2.2 hw.1.sr3 (rrR_le _ _ _ _)) (cwV 0 hts gX3_factOfSet_X1_longest rfl rfl rfl (by decide +kernel) ⟨Nat.le_of_ble_eq_true rfl, Nat.le_of_ble_eq_true rfl⟩) (preV hK hw.srr.1 rfl hw.srr) rfl rfl hl.1 rfl (lv_room (Nat.le_of_ble_eq_true rfl)) dX3_factOfSet_114 ⟨Nat.le_of_ble_eq_true rfl, Nat.le_of_ble_eq_true rfl⟩).run (fun r6 hr6 => ?_)
  rw [hr6]
  refine vp_callSi (va_runV (As := [.int (lngR (rrR (F k) (nI 0) sr 201) ((rrR (F k) (nI 0) sr 201).2.2 - 1))]) (rest := []) ⟨hx, hb, hml, hown, hts⟩ (conX1_length l D T (ad 3) (ad 34) (ad 35) (rrR (F k) (nI 0) sr 201).1 (rrR (F k) (nI 0) sr 201).2.1 (rrR (F k) (nI 0) sr 201).2.2 hw.1.sr3 (rrR_le _ _ _ _) (lngR (rrR (F k) (nI 0) sr 201) ((rrR (F k) (nI 0) sr 201).2.2 - 1))) (cwV 1 hts gX3_factOfSet_X1_length rfl rfl rfl (by decide +kernel) ⟨Nat.le_of_ble_eq_true rfl, Nat.le_of_ble_eq_true rfl⟩) (preV hK hw.srr.1 rfl hw.srr) rfl rfl hl.1 rfl (lv_room (Nat.le_of_ble_eq_true rfl)) dX3_factOfSet_117 ⟨Nat.le_of_ble_eq_true rfl, Nat.le_of_ble_eq_true rfl⟩).run (fun r7 hr7 => ?_)
  rw [hr7]
  exact W.iret (v := lenR (rrR (F k) (nI 0) sr 201) (lngR (rrR (F k) (nI 0) sr 201) ((rrR (F k) (nI 0) sr 201).2.2 - 1))) hx hb hr (fun t ht _ => ⟨⟨lenR (rrR (F k) (nI 0) sr 201) (lngR (rrR (F k) (nI 0) sr 201) ((rrR (F k) (nI 0) sr 201).2.2 - 1)), (), rfl, by (rw [facSv, if_neg e1_0, if_neg e1_1, if_neg e1_2, if_neg e1_3, if_neg e1_4]; try rfl), by dsimp only; rw [ht]; exact (by rw [facSr, if_neg (by omega), if_neg (by omega), if_neg (by omega), if_neg (by omega)]; exact hw)⟩, hS.F ht⟩) hS.2.2 dX3_factOfSet_120

set_option maxHeartbeats 4000000 in
set_option maxRecDepth 100000 in
theorem conX3_ofSet (l : Launch) (D : va_G) (T : Nat → ClassId) (ad : Nat → Nat) (F V : Nat → Nat → Int32) (sr : SRs) (C : Nat → Int32) (k w : Nat) (hk : k < 8) (hw9 : w ≤ 5) (hsn : sr.2.2 ≤ 201) : Met l yX3_ofSet wsX3_ofSet ({ frames := 5, cells := 0, slots := 0, locals := 108 }) (cP D T [.ref (ad 0), .int (nI k), .int (nI w)] (fun H => PLW D T ad F V sr C H)) (va_Qi (fun (r : Int32) (_ : Unit) => r = facSv (F k) w sr) (fun _ t => PLW D T ad F V (facSr (F k) w sr) C t.heap) (PLA ad)) 0 0 (PLA ad) := by
  refine Met.ofW (cc := cX3_ofSet) (maxL := 4) (ret := (some .int)) (by decide) rfl ?_
  intro p e s m args below meth c s₁ B hml hv9
  obtain ⟨rfl, hK, hw⟩ := hv9
  have hx := B.exec
  have hb := B.bytes
  have hr := B.returns
  have hts := atoms_spec (ws := wsX3_ofSet) B.pre
  have hown : s.vm.findClass RX3 = some m.cls := findClass_of_methodNamed B.named
  have hlocks := B.notSynchronized
  generalize hAe : (PLA ad) = A
  have hA : ∀ i : Nat, i < 37 → A (ad i) := fun i hi => by subst hAe; exact ⟨i, hi, rfl⟩
  have hS : va_S A s.heap s.heap [] := va_S.rf
  have hl := lv_entry ([.ref (ad 0), .int (nI k), .int (nI w)]) (n := 4) (Nat.le_of_ble_eq_true rfl)
  rw [lg_entry_eq]
  generalize (lg_sl ([.ref (ad 0), .int (nI k), .int (nI w)]) ++ List.replicate (4 - (lg_sl ([.ref (ad 0), .int (nI k), .int (nI w)])).length) Slot.unset).toArray = ls at hl ⊢
  have hl : lv_has ls 4 [(0, .ref (ad 0)), (1, .int (nI k)), (2, .int (nI w))] := hl
  refine lv_aload_n hx hb dX3_ofSet_0 rfl (lv_at hl 0 rfl) ?_
  refine lv_iload_n hx hb dX3_ofSet_1 rfl (lv_at hl 1 rfl) ?_
  refine va_csr (ad := fun k => .ref k) (va_runV (As := [.int (nI k)]) (rest := []) ⟨hx, hb, hml, hown, hts⟩ (conX3_setAt l D T ad F V sr C k (by omega)) (cwV 1 hts gX3_ofSet_X3_setAt rfl rfl rfl (by decide +kernel) ⟨Nat.le_of_ble_eq_true rfl, Nat.le_of_ble_eq_true rfl⟩) (preV hK hw.o rfl hw) rfl rfl hl.1 rfl (lv_room (Nat.le_of_ble_eq_true rfl)) dX3_ofSet_2 ⟨Nat.le_of_ble_eq_true rfl, Nat.le_of_ble_eq_true rfl⟩).run (fun r1 hr1 => ?_)
  subst hr1
  refine lv_astore_n (lv' := [(3, .ref (ad (4 + k))), (0, .ref (ad 0)), (1, .int (nI k)), (2, .int (nI w))]) hx hb dX3_ofSet_5 rfl hl (by decide) rfl (fun ls hl => ?_)
  refine lv_iload_n hx hb dX3_ofSet_6 rfl (lv_at hl 3 rfl) ?_
  refine lv_iconst (v := nI 5) hx hb dX3_ofSet_7 (by decide) ?_
  refine va_csv (va_runS (As := [.int (nI w), .int (nI 5)]) (rest := []) ⟨hx, hb, hml, hown, hts⟩ (conX3_checkChoice l D T w 5 (by omega) (by omega)) (va_cwS 2 hts gX3_ofSet_X3_checkChoice rfl rfl rfl (by decide +kernel) ⟨Nat.le_of_ble_eq_true rfl, Nat.le_of_ble_eq_true rfl⟩) (preS hK trivial) rfl rfl hl.1 rfl (lv_room (Nat.le_of_ble_eq_true rfl)) dX3_ofSet_8 ⟨Nat.le_of_ble_eq_true rfl, Nat.le_of_ble_eq_true rfl⟩).run (fun _ => ?_)
  refine lv_aload_n hx hb dX3_ofSet_11 rfl (lv_at hl 1 rfl) ?_
  refine lv_aload_n hx hb dX3_ofSet_12 rfl (lv_at hl 0 rfl) ?_
  refine lv_iload_n hx hb dX3_ofSet_13 rfl (lv_at hl 3 rfl) ?_
  refine va_calli (va_runV (As := [.ref (ad (4 + k)), .int (nI w)]) (rest := []) ⟨hx, hb, hml, hown, hts⟩ (conX3_factOfSet l D T ad F V sr C k w (by omega) (by omega) hsn) (cwV 2 hts gX3_ofSet_X3_factOfSet rfl rfl rfl (by decide +kernel) ⟨Nat.le_of_ble_eq_true rfl, Nat.le_of_ble_eq_true rfl⟩) (preV hK hw.o rfl hw) rfl rfl hl.1 rfl (lv_room (Nat.le_of_ble_eq_true rfl)) dX3_ofSet_14 ⟨Nat.le_of_ble_eq_true rfl, Nat.le_of_ble_eq_true rfl⟩) hS (fun q _ h9 => (by obtain ⟨i8, h7, h8⟩ := (show PLA ad q from h9); rw [h8]; exact hA i8 h7)) (fun q h9 => (by obtain ⟨i8, h7, h8⟩ := (show PLA ad q from h9); rw [h8]; exact hA i8 h7)) (fun r u t H1 locs1 ht hvm hw9 hB hz1 hk1 hS => ?_)
  try dsimp only at hB
  rw [ht] at hB
  rw [hw9]
  replace hw := hB
  exact W.iret (v := facSv (F k) w sr) hx hb hr (fun t ht _ => ⟨⟨facSv (F k) w sr, (), rfl, by rfl, by dsimp only; rw [ht]; exact hw⟩, hS.F ht⟩) hS.2.2 dX3_ofSet_17

set_option maxHeartbeats 4000000 in
set_option maxRecDepth 100000 in
theorem conX3_ofSpan (l : Launch) (D : va_G) (T : Nat → ClassId) (ad : Nat → Nat) (F V : Nat → Nat → Int32) (sr : SRs) (C : Nat → Int32) (k n9 w : Nat) (hk : k < 8) (hw9 : w ≤ 2) (hn9 : n9 < (rrR (F k) (nI 1) sr 201).2.2) (hsn : sr.2.2 ≤ 201) : Met l yX3_ofSpan wsX3_ofSpan ({ frames := 2, cells := 0, slots := 0, locals := 44 }) (cP D T [.ref (ad 0), .int (nI k), .int (nI n9), .int (nI w)] (fun H => PLW D T ad F V sr C H)) (va_Qi (fun (r : Int32) (_ : Unit) => r = facR (rrR (F k) (nI 1) sr 201) (nI n9) (nI w)) (fun _ t => PLW D T ad F V (rrR (F k) (nI 1) sr 201) C t.heap) (PLA ad)) 0 0 (PLA ad) := by
  refine Met.ofW (cc := cX3_ofSpan) (maxL := 4) (ret := (some .int)) (by decide) rfl ?_
  intro p e s m args below meth c s₁ B hml hv9
  obtain ⟨rfl, hK, hw⟩ := hv9
  have hx := B.exec
  have hb := B.bytes
  have hr := B.returns
  have hts := atoms_spec (ws := wsX3_ofSpan) B.pre
  have hown : s.vm.findClass RX3 = some m.cls := findClass_of_methodNamed B.named
  have hlocks := B.notSynchronized
  have hin3 : ∀ w ∈ wsX30, w ∈ wsX3_ofSpan := by decide +kernel
  generalize hAe : (PLA ad) = A
  have hA : ∀ i : Nat, i < 37 → A (ad i) := fun i hi => by subst hAe; exact ⟨i, hi, rfl⟩
  have hS : va_S A s.heap s.heap [] := va_S.rf
  have hl := lv_entry ([.ref (ad 0), .int (nI k), .int (nI n9), .int (nI w)]) (n := 4) (Nat.le_of_ble_eq_true rfl)
  rw [lg_entry_eq]
  generalize (lg_sl ([.ref (ad 0), .int (nI k), .int (nI n9), .int (nI w)]) ++ List.replicate (4 - (lg_sl ([.ref (ad 0), .int (nI k), .int (nI n9), .int (nI w)])).length) Slot.unset).toArray = ls at hl ⊢
  have hl : lv_has ls 4 [(0, .ref (ad 0)), (1, .int (nI k)), (2, .int (nI n9)), (3, .int (nI w))] := hl
  have hle9 := rrR_le (F k) (nI 1) sr 201
  refine lv_aload_n hx hb dX3_ofSpan_0 rfl (lv_at hl 0 rfl) ?_
  refine q_get (v := .ref (ad 3)) hx hb hts hin3 hown hK hw.o rfl 4 (by decide) (hts (.fieldLink RX3 34 "PuddingstoneLine" "spanRow" "LPuddingstoneLine$SpanRow;") (by decide +kernel)) (fun _ h9 => h9) rfl dX3_ofSpan_1 ?_
  refine lv_aload_n hx hb dX3_ofSpan_4 rfl (lv_at hl 0 rfl) ?_
  refine lv_iload_n hx hb dX3_ofSpan_5 rfl (lv_at hl 1 rfl) ?_
  refine va_csr (ad := fun k => .ref k) (va_runV (As := [.int (nI k)]) (rest := [.ref (ad 3)]) ⟨hx, hb, hml, hown, hts⟩ (conX3_setAt l D T ad F V sr C k (by omega)) (cwV 1 hts gX3_ofSpan_X3_setAt rfl rfl rfl (by decide +kernel) ⟨Nat.le_of_ble_eq_true rfl, Nat.le_of_ble_eq_true rfl⟩) (preV hK hw.o rfl hw) rfl rfl hl.1 rfl (lv_room (Nat.le_of_ble_eq_true rfl)) dX3_ofSpan_6 ⟨Nat.le_of_ble_eq_true rfl, Nat.le_of_ble_eq_true rfl⟩).run (fun r1 hr1 => ?_)
  subst hr1
  refine lv_iconst (v := nI 1) hx hb dX3_ofSpan_9 (by decide) ?_
  refine va_callv (va_runV (As := [.ref (ad (4 + k)), .int (nI 1)]) (rest := []) ⟨hx, hb, hml, hown, hts⟩ (conX1_readRuns l D T (ad 3) (ad 34) (ad 35) sr.1 sr.2.1 sr.2.2 hw.1.sr3 hsn (ad (4 + k)) (ad (13 + k)) (F k) (nI 1) (hw.1.nsr (4 + k) (by omega) ⟨by omega, by omega, by omega⟩) (hw.1.nsr (13 + k) (by omega) ⟨by omega, by omega, by omega⟩)) (cwV 2 hts gX3_ofSpan_X1_readRuns rfl rfl rfl (by decide +kernel) ⟨Nat.le_of_ble_eq_true rfl, Nat.le_of_ble_eq_true rfl⟩) (preV hK hw.srr.1 rfl ⟨hw.srr, (hw.gs k (by omega)).1, (hw.gs k (by omega)).2.1, (hw.gs k (by omega)).2.2⟩) rfl rfl hl.1 rfl (lv_room (Nat.le_of_ble_eq_true rfl)) dX3_ofSpan_10 ⟨Nat.le_of_ble_eq_true rfl, Nat.le_of_ble_eq_true rfl⟩) hS (fun q _ h9 => (by rcases (show q = ad 3 ∨ q = ad 34 ∨ q = ad 35 from h9) with h8 | h8 | h8 <;> rw [h8]; exact hA 3 (by omega); exact hA 34 (by omega); exact hA 35 (by omega))) (fun q h9 => (by rcases (show q = ad 3 ∨ q = ad 34 ∨ q = ad 35 from h9) with h8 | h8 | h8 <;> rw [h8]; exact hA 3 (by omega); exact hA 34 (by omega); exact hA 35 (by omega))) (fun u t H1 locs1 ht hvm hw9 hB hz1 hk1 hS => ?_)
  try dsimp only at hB
  rw [ht] at hB
  replace hw := hw.setR (sr' := rrR (F k) (nI 1) sr 201) hB (fun q h1 h2 => hk1 q h1 h2)
  refine lv_iload_n hx hb dX3_ofSpan_13 rfl (lv_at hl 2 rfl) ?_
  refine lv_if_lt (tgt := 28) hx hb dX3_ofSpan_14 (by decide) (fun c14 => ?_) (fun c14 => ?_)
  · skip
    have c14 : n9 < 0 := (nc_lt (a := n9) (b := 0) (by omega) (by omega)).mp c14
    omega
  · skip
    have c14 : ¬ (n9 < 0) := fun q9 => c14 ((nc_lt (a := n9) (b := 0) (by omega) (by omega)).mpr q9)
    refine lv_iload_n hx hb dX3_ofSpan_17 rfl (lv_at hl 2 rfl) ?_
    refine lv_aload_n hx hb dX3_ofSpan_18 rfl (lv_at hl 0 rfl) ?_
    refine q_get (v := .ref (ad 3)) hx hb hts hin3 hown hK hw.o rfl 4 (by decide) (hts (.fieldLink RX3 34 "PuddingstoneLine" "spanRow" "LPuddingstoneLine$SpanRow;") (by decide +kernel)) (fun _ h9 => h9) rfl dX3_ofSpan_19 ?_
    refine vp_callSi (va_runV (As := []) (rest := [.int (nI n9)]) ⟨hx, hb, hml, hown, hts⟩ (conX1_size l D T (ad 3) (ad 34) (ad 35) (rrR (F k) (nI 1) sr 201).1 (rrR (F k) (nI 1) sr 201).2.1 (rrR (F k) (nI 1) sr 201).2.2 hw.1.sr3 (rrR_le _ _ _ _)) (cwV 0 hts gX3_ofSpan_X1_size rfl rfl rfl (by decide +kernel) ⟨Nat.le_of_ble_eq_true rfl, Nat.le_of_ble_eq_true rfl⟩) (preV hK hw.srr.1 rfl hw.srr) rfl rfl hl.1 rfl (lv_room (Nat.le_of_ble_eq_true rfl)) dX3_ofSpan_22 ⟨Nat.le_of_ble_eq_true rfl, Nat.le_of_ble_eq_true rfl⟩).run (fun r2 hr2 => ?_)
    rw [hr2]
    refine lv_icmp_lt (tgt := 38) hx hb dX3_ofSpan_25 (by decide) (fun c25 => ?_) (fun c25 => ?_)
    · skip
      have c25 : n9 < (rrR (F k) (nI 1) sr 201).2.2 := (nc_lt (a := n9) (b := (rrR (F k) (nI 1) sr 201).2.2) (by omega) (by omega)).mp c25
      refine lv_iload_n hx hb dX3_ofSpan_38 rfl (lv_at hl 3 rfl) ?_
      refine lv_iconst (v := nI 2) hx hb dX3_ofSpan_39 (by decide) ?_
      refine va_csv (va_runS (As := [.int (nI w), .int (nI 2)]) (rest := []) ⟨hx, hb, hml, hown, hts⟩ (conX3_checkChoice l D T w 2 (by omega) (by omega)) (va_cwS 2 hts gX3_ofSpan_X3_checkChoice rfl rfl rfl (by decide +kernel) ⟨Nat.le_of_ble_eq_true rfl, Nat.le_of_ble_eq_true rfl⟩) (preS hK trivial) rfl rfl hl.1 rfl (lv_room (Nat.le_of_ble_eq_true rfl)) dX3_ofSpan_40 ⟨Nat.le_of_ble_eq_true rfl, Nat.le_of_ble_eq_true rfl⟩).run (fun _ => ?_)
      refine lv_aload_n hx hb dX3_ofSpan_43 rfl (lv_at hl 0 rfl) ?_
      refine q_get (v := .ref (ad 3)) hx hb hts hin3 hown hK hw.o rfl 4 (by decide) (hts (.fieldLink RX3 34 "PuddingstoneLine" "spanRow" "LPuddingstoneLine$SpanRow;") (by decide +kernel)) (fun _ h9 => h9) rfl dX3_ofSpan_44 ?_
      refine lv_iload_n hx hb dX3_ofSpan_47 rfl (lv_at hl 2 rfl) ?_
      refine lv_iload_n hx hb dX3_ofSpan_48 rfl (lv_at hl 3 rfl) ?_
      refine vp_callSi (va_runV (As := [.int (nI n9), .int (nI w)]) (rest := []) ⟨hx, hb, hml, hown, hts⟩ (conX1_fact l D T (ad 3) (ad 34) (ad 35) (rrR (F k) (nI 1) sr 201).1 (rrR (F k) (nI 1) sr 201).2.1 (rrR (F k) (nI 1) sr 201).2.2 hw.1.sr3 (rrR_le _ _ _ _) (nI n9) (nI w)) (cwV 2 hts gX3_ofSpan_X1_fact rfl rfl rfl (by decide +kernel) ⟨Nat.le_of_ble_eq_true rfl, Nat.le_of_ble_eq_true rfl⟩) (preV hK hw.srr.1 rfl hw.srr) rfl rfl hl.1 rfl (lv_room (Nat.le_of_ble_eq_true rfl)) dX3_ofSpan_49 ⟨Nat.le_of_ble_eq_true rfl, Nat.le_of_ble_eq_true rfl⟩).run (fun r3 hr3 => ?_)
      rw [hr3]
      exact W.iret (v := facR (rrR (F k) (nI 1) sr 201) (nI n9) (nI w)) hx hb hr (fun t ht _ => ⟨⟨facR (rrR (F k) (nI 1) sr 201) (nI n9) (nI w), (), rfl, by rfl, by dsimp only; rw [ht]; exact hw⟩, hS.F ht⟩) hS.2.2 dX3_ofSpan_52
    · skip
      have c25 : ¬ (n9 < (rrR (F k) (nI 1) sr 201).2.2) := fun q9 => c25 ((nc_lt (a := n9) (b := (rrR (F k) (nI 1) sr 201).2.2) (by omega) (by omega)).mpr q9)
      omega
