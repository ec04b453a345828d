set_option maxHeartbeats 4000000 in
set_option maxRecDepth 100000 in
theorem conX3_digestOfSet (l : Launch) (D : va_G) (T : Nat → ClassId) (ad : Nat → Nat) (F V : Nat → Nat → Int32) (sr : SRs) (C : Nat → Int32) (k : Nat) (d : Int64) (hk : k < 8) (hsn : sr.2.2 ≤ 201) : Met l yX3_digestOfSet wsX3_digestOfSet ({ frames := 5, cells := 0, slots := 0, locals := 108 }) (cP D T [.ref (ad 0), .long d, .ref (ad (4 + k))] (fun H => PLW D T ad F V sr C H)) (va_Ql (fun (r : Int64) (_ : Unit) => r = dgSet (F k) sr d) (fun _ t => PLW D T ad F V (dgSetS (F k) sr d) C t.heap) (PLA ad)) 0 0 (PLA ad) := by
  refine Met.ofW (cc := cX3_digestOfSet) (maxL := 8) (ret := (some .long)) (by decide) rfl ?_
  intro p e s m args below meth c s₁ B hml hv9
  obtain ⟨rfl, hK, hw⟩ := hv9
  have hx := B.exec
  have hb := B.bytes
  have hr := B.returns
  have hts := atoms_spec (ws := wsX3_digestOfSet) B.pre
  have hown : s.vm.findClass RX3 = some m.cls := findClass_of_methodNamed B.named
  have hlocks := B.notSynchronized
  have hin3 : ∀ w ∈ wsX30, w ∈ wsX3_digestOfSet := by decide +kernel
  generalize hAe : (PLA ad) = A
  have hA : ∀ i : Nat, i < 37 → A (ad i) := fun i hi => by subst hAe; exact ⟨i, hi, rfl⟩
  have hS : va_S A s.heap s.heap [] := va_S.rf
  have hl := lv_entry ([.ref (ad 0), .long d, .ref (ad (4 + k))]) (n := 8) (Nat.le_of_ble_eq_true rfl)
  rw [lg_entry_eq]
  generalize (lg_sl ([.ref (ad 0), .long d, .ref (ad (4 + k))]) ++ List.replicate (8 - (lg_sl ([.ref (ad 0), .long d, .ref (ad (4 + k))])).length) Slot.unset).toArray = ls at hl ⊢
  have hl : lv_has ls 8 [(0, .ref (ad 0)), (1, .long d), (3, .ref (ad (4 + k)))] := hl
  refine lv_lload_n hx hb dX3_digestOfSet_0 rfl (lv_at hl 1 rfl) ?_
  refine lv_lstore (lv' := [(4, .long d), (0, .ref (ad 0)), (1, .long d), (3, .ref (ad (4 + k)))]) hx hb dX3_digestOfSet_1 hl (by decide) rfl (fun ls hl => ?_)
  refine lv_iconst (v := nI 0) hx hb dX3_digestOfSet_3 (by decide) ?_
  refine lv_istore (lv' := [(6, .int (nI 0)), (4, .long d), (0, .ref (ad 0)), (1, .long d), (3, .ref (ad (4 + k)))]) hx hb dX3_digestOfSet_4 hl (by decide) rfl (fun ls hl => ?_)
  refine q_for (fun (i : Nat) (H : Heap) (locs : List Loc) (ls : Array Slot) => va_S A s.heap H locs ∧ lv_has ls 8 [(6, .int (nI i)), (4, .long ((dgSa (F k) sr d i).1)), (0, .ref (ad 0)), (1, .long d), (3, .ref (ad (4 + k)))] ∧ PLW D T ad F V ((dgSa (F k) sr d i).2) C H) (N := 6) 0 (by omega) ?_ ?_ ?_
  · skip
    have e1 : d = (dgSa (F k) sr d 0).1 := by rfl
    have e2 : sr = (dgSa (F k) sr d 0).2 := by rfl
    exact ⟨hS, lv_sub (lv_ex hl 1 rfl (congrArg Value.long e1)) [0, 1, 2, 3, 4] rfl, ((e2 ▸ hw) : PLW D T ad F V ((dgSa (F k) sr d 0).2) C _)⟩
  · skip
    intro i H locs ls hi9 hin9 hnext
    obtain ⟨hS, hl, hw⟩ := hin9
    refine lv_iload hx hb dX3_digestOfSet_6 (lv_at hl 0 rfl) ?_
    refine lv_iconst (v := nI 5) hx hb dX3_digestOfSet_8 (by decide) ?_
    refine lv_icmp_gt (tgt := 35) hx hb dX3_digestOfSet_9 (by decide) (fun c9 => ?_) (fun c9 => ?_)
    · skip
      have c9 : 5 < i := (nc_lt (a := 5) (b := i) (by omega) (by omega)).mp c9
      omega
    · skip
      have c9 : ¬ (5 < i) := fun q9 => c9 ((nc_lt (a := 5) (b := i) (by omega) (by omega)).mpr q9)
      refine lv_lload hx hb dX3_digestOfSet_12 (lv_at hl 1 rfl) ?_
      refine lv_ldc2 hx hb hown (hts (.constantLong RX3 209 31) (by decide +kernel)) dX3_digestOfSet_14 ?_
      refine lv_lmul hx hb dX3_digestOfSet_17 ?_
      refine lv_aload_n hx hb dX3_digestOfSet_18 rfl (lv_at hl 2 rfl) ?_
      refine lv_aload_n hx hb dX3_digestOfSet_19 rfl (lv_at hl 4 rfl) ?_
      refine lv_iload hx hb dX3_digestOfSet_20 (lv_at hl 0 rfl) ?_
      refine va_calli (va_runV (As := [.ref (ad (4 + k)), .int (nI i)]) (rest := [.long (((dgSa (F k) sr d i).1) * 31)]) ⟨hx, hb, hml, hown, hts⟩ (conX3_factOfSet l D T ad F V ((dgSa (F k) sr d i).2) C k i (by omega) (by omega) (dgSa_le hsn)) (cwV 2 hts gX3_digestOfSet_X3_factOfSet rfl rfl rfl (by decide +kernel) ⟨Nat.le_of_ble_eq_true rfl, Nat.le_of_ble_eq_true rfl⟩) (preV hK hw.o rfl hw) rfl rfl hl.1 rfl (lv_room (Nat.le_of_ble_eq_true rfl)) dX3_digestOfSet_22 ⟨Nat.le_of_ble_eq_true rfl, Nat.le_of_ble_eq_true rfl⟩) hS (fun q _ h9 => (by obtain ⟨i8, h7, h8⟩ := (show PLA ad q from h9); rw [h8]; exact hA i8 h7)) (fun q h9 => (by obtain ⟨i8, h7, h8⟩ := (show PLA ad q from h9); rw [h8]; exact hA i8 h7)) (fun r u t H1 locs1 ht hvm hw9 hB hz1 hk1 hS => ?_)
      try dsimp only at hB
      rw [ht] at hB
      rw [hw9]
      replace hw := hB
      refine lv_i2l (v := (facSv (F k) i ((dgSa (F k) sr d i).2)).toInt64) hx hb dX3_digestOfSet_25 rfl ?_
      refine lv_ladd hx hb dX3_digestOfSet_26 ?_
      refine lv_lstore (lv' := [(4, .long ((((dgSa (F k) sr d i).1) * 31) + ((facSv (F k) i ((dgSa (F k) sr d i).2)).toInt64))), (6, .int (nI i)), (0, .ref (ad 0)), (1, .long d), (3, .ref (ad (4 + k)))]) hx hb dX3_digestOfSet_27 hl (by decide) rfl (fun ls hl => ?_)
      refine lv_iinc (v := nI (i + 1)) (lv' := [(6, .int (nI (i + 1))), (4, .long ((((dgSa (F k) sr d i).1) * 31) + ((facSv (F k) i ((dgSa (F k) sr d i).2)).toInt64))), (0, .ref (ad 0)), (1, .long d), (3, .ref (ad (4 + k)))]) hx hb dX3_digestOfSet_29 hl (k := 1) rfl (inc_1 _) (by decide) rfl (fun ls hl => ?_)
      refine lv_goto (tgt := 6) hx hb dX3_digestOfSet_32 (by decide) ?_
      have e3 : (((dgSa (F k) sr d i).1) * 31) + ((facSv (F k) i ((dgSa (F k) sr d i).2)).toInt64) = (dgSa (F k) sr d (i + 1)).1 := by (rw [dgSa_s])
      have e4 : facSr (F k) i ((dgSa (F k) sr d i).2) = (dgSa (F k) sr d (i + 1)).2 := by (rw [dgSa_s])
      exact hnext _ _ _ ⟨hS, lv_sub (lv_ex hl 1 rfl (congrArg Value.long e3)) [0, 1, 2, 3, 4] rfl, ((e4 ▸ hw) : PLW D T ad F V ((dgSa (F k) sr d (i + 1)).2) C _)⟩
  · skip
    intro H locs ls hin9
    obtain ⟨hS, hl, hw⟩ := hin9
    refine lv_iload hx hb dX3_digestOfSet_6 (lv_at hl 0 rfl) ?_
    refine lv_iconst (v := nI 5) hx hb dX3_digestOfSet_8 (by decide) ?_
    refine lv_icmp_gt (tgt := 35) hx hb dX3_digestOfSet_9 (by decide) (fun c9 => ?_) (fun c9 => ?_)
    · skip
      have c9 : 5 < 6 := (nc_lt (a := 5) (b := 6) (by omega) (by omega)).mp c9
      refine lv_aload_n hx hb dX3_digestOfSet_35 rfl (lv_at hl 2 rfl) ?_
      refine q_get (v := .ref (ad 3)) hx hb hts hin3 hown hK hw.o rfl 4 (by decide) (hts (.fieldLink RX3 34 "PuddingstoneLine" "spanRow" "LPuddingstoneLine$SpanRow;") (by decide +kernel)) (fun _ h9 => h9) rfl dX3_digestOfSet_36 ?_
      refine lv_aload_n hx hb dX3_digestOfSet_39 rfl (lv_at hl 4 rfl) ?_
      refine lv_iconst (v := nI 1) hx hb dX3_digestOfSet_40 (by decide) ?_
      refine va_callv (va_runV (As := [.ref (ad (4 + k)), .int (nI 1)]) (rest := []) ⟨hx, hb, hml, hown, hts⟩ (conX1_readRuns l D T (ad 3) (ad 34) (ad 35) ((dgSa (F k) sr d 6).2).1 ((dgSa (F k) sr d 6).2).2.1 ((dgSa (F k) sr d 6).2).2.2 hw.1.sr3 (dgSa_le hsn) (ad (4 + k)) (ad (13 + k)) (F k) (nI 1) (hw.1.nsr (4 + k) (by omega) ⟨by omega, by omega, by omega⟩) (hw.1.nsr (13 + k) (by omega) ⟨by omega, by omega, by omega⟩)) (cwV 2 hts gX3_digestOfSet_X1_readRuns rfl rfl rfl (by decide +kernel) ⟨Nat.le_of_ble_eq_true rfl, Nat.le_of_ble_eq_true rfl⟩) (preV hK hw.srr.1 rfl ⟨hw.srr, (hw.gs k (by omega)).1, (hw.gs k (by omega)).2.1, (hw.gs k (by omega)).2.2⟩) rfl rfl hl.1 rfl (lv_room (Nat.le_of_ble_eq_true rfl)) dX3_digestOfSet_41 ⟨Nat.le_of_ble_eq_true rfl, Nat.le_of_ble_eq_true rfl⟩) hS (fun q _ h9 => (by rcases (show q = ad 3 ∨ q = ad 34 ∨ q = ad 35 from h9) with h8 | h8 | h8 <;> rw [h8]; exact hA 3 (by omega); exact hA 34 (by omega); exact hA 35 (by omega))) (fun q h9 => (by rcases (show q = ad 3 ∨ q = ad 34 ∨ q = ad 35 from h9) with h8 | h8 | h8 <;> rw [h8]; exact hA 3 (by omega); exact hA 34 (by omega); exact hA 35 (by omega))) (fun u t H1 locs1 ht hvm hw9 hB hz1 hk1 hS => ?_)
      try dsimp only at hB
      rw [ht] at hB
      replace hw := hw.setR (sr' := rrR (F k) (nI 1) ((dgSa (F k) sr d 6).2) 201) hB (fun q h1 h2 => hk1 q h1 h2)
      obtain ⟨sq, hsq⟩ : ∃ z, z = dgSetS (F k) sr d := ⟨_, rfl⟩
      have hw : PLW D T ad F V (dgSetS (F k) sr d) C _ := hw
      rw [← hsq] at hw
      have hsq9 : sq.2.2 ≤ 201 := by rw [hsq]; exact rrR_le _ _ _ _
      refine lv_iconst (v := nI 0) hx hb dX3_digestOfSet_44 (by decide) ?_
      refine lv_istore (lv' := [(6, .int (nI 0)), (4, .long ((dgSa (F k) sr d 6).1)), (0, .ref (ad 0)), (1, .long d), (3, .ref (ad (4 + k)))]) hx hb dX3_digestOfSet_45 hl (by decide) rfl (fun ls hl => ?_)
      refine q_for (fun (i : Nat) (H : Heap) (locs : List Loc) (ls : Array Slot) => va_S A s.heap H locs ∧ lv_has ls 8 [(6, .int (nI i)), (4, .long (dgSc sq (dgSa (F k) sr d 6).1 i)), (0, .ref (ad 0)), (1, .long d), (3, .ref (ad (4 + k)))] ∧ PLW D T ad F V sq C H) (N := sq.2.2) 0 (by omega) ?_ ?_ ?_
      · skip
        have e5 : (dgSa (F k) sr d 6).1 = dgSc sq (dgSa (F k) sr d 6).1 0 := by rfl
        exact ⟨hS, lv_sub (lv_ex hl 1 rfl (congrArg Value.long e5)) [0, 1, 2, 3, 4] rfl, hw⟩
      · skip
        intro i H locs ls hi9 hin9 hnext
        obtain ⟨hS, hl, hw⟩ := hin9
        refine lv_iload hx hb dX3_digestOfSet_47 (lv_at hl 0 rfl) ?_
        refine lv_aload_n hx hb dX3_digestOfSet_49 rfl (lv_at hl 2 rfl) ?_
        refine q_get (v := .ref (ad 3)) hx hb hts hin3 hown hK hw.o rfl 4 (by decide) (hts (.fieldLink RX3 34 "PuddingstoneLine" "spanRow" "LPuddingstoneLine$SpanRow;") (by decide +kernel)) (fun _ h9 => h9) rfl dX3_digestOfSet_50 ?_
        refine vp_callSi (va_runV (As := []) (rest := [.int (nI i)]) ⟨hx, hb, hml, hown, hts⟩ (conX1_size l D T (ad 3) (ad 34) (ad 35) sq.1 sq.2.1 sq.2.2 hw.1.sr3 hsq9) (cwV 0 hts gX3_digestOfSet_X1_size rfl rfl rfl (by decide +kernel) ⟨Nat.le_of_ble_eq_true rfl, Nat.le_of_ble_eq_true rfl⟩) (preV hK hw.srr.1 rfl hw.srr) rfl rfl hl.1 rfl (lv_room (Nat.le_of_ble_eq_true rfl)) dX3_digestOfSet_53 ⟨Nat.le_of_ble_eq_true rfl, Nat.le_of_ble_eq_true rfl⟩).run (fun r6 hr6 => ?_)
        rw [hr6]
        refine lv_icmp_ge (tgt := 101) hx hb dX3_digestOfSet_56 (by decide) (fun c56 => ?_) (fun c56 => ?_)
        · skip
          have c56 : sq.2.2 ≤ i := (nc_le (a := sq.2.2) (b := i) (by omega) (by omega)).mp c56
          omega
        · skip
          have c56 : ¬ (sq.2.2 ≤ i) := fun q9 => c56 ((nc_le (a := sq.2.2) (b := i) (by omega) (by omega)).mpr q9)
          refine lv_iconst (v := nI 0) hx hb dX3_digestOfSet_59 (by decide) ?_
          refine lv_istore (lv' := [(7, .int (nI 0)), (6, .int (nI i)), (4, .long (dgSc sq (dgSa (F k) sr d 6).1 i)), (0, .ref (ad 0)), (1, .long d), (3, .ref (ad (4 + k)))]) hx hb dX3_digestOfSet_60 hl (by decide) rfl (fun ls hl => ?_)
          refine q_for (fun (w : Nat) (H : Heap) (locs : List Loc) (ls : Array Slot) => va_S A s.heap H locs ∧ lv_has ls 8 [(7, .int (nI w)), (6, .int (nI i)), (4, .long (dgSb sq i (dgSc sq (dgSa (F k) sr d 6).1 i) w)), (0, .ref (ad 0)), (1, .long d), (3, .ref (ad (4 + k)))] ∧ PLW D T ad F V sq C H) (N := 3) 0 (by omega) ?_ ?_ ?_
          · skip
            have e7 : dgSc sq (dgSa (F k) sr d 6).1 i = dgSb sq i (dgSc sq (dgSa (F k) sr d 6).1 i) 0 := by rfl
            exact ⟨hS, lv_sub (lv_ex hl 2 rfl (congrArg Value.long e7)) [0, 1, 2, 3, 4, 5] rfl, hw⟩
          · skip
            intro w H locs ls hi9_w hin9 hnext_w
            obtain ⟨hS, hl, hw⟩ := hin9
            refine lv_iload hx hb dX3_digestOfSet_62 (lv_at hl 0 rfl) ?_
            refine lv_iconst (v := nI 2) hx hb dX3_digestOfSet_64 (by decide) ?_
            refine lv_icmp_gt (tgt := 95) hx hb dX3_digestOfSet_65 (by decide) (fun c65 => ?_) (fun c65 => ?_)
            · skip
              have c65 : 2 < w := (nc_lt (a := 2) (b := w) (by omega) (by omega)).mp c65
              omega
            · skip
              have c65 : ¬ (2 < w) := fun q9 => c65 ((nc_lt (a := 2) (b := w) (by omega) (by omega)).mpr q9)
              refine lv_lload hx hb dX3_digestOfSet_68 (lv_at hl 2 rfl) ?_
              refine lv_ldc2 hx hb hown (hts (.constantLong RX3 209 31) (by decide +kernel)) dX3_digestOfSet_70 ?_
              refine lv_lmul hx hb dX3_digestOfSet_73 ?_
              refine lv_aload_n hx hb dX3_digestOfSet_74 rfl (lv_at hl 3 rfl) ?_
              refine q_get (v := .ref (ad 3)) hx hb hts hin3 hown hK hw.o rfl 4 (by decide) (hts (.fieldLink RX3 34 "PuddingstoneLine" "spanRow" "LPuddingstoneLine$SpanRow;") (by decide +kernel)) (fun _ h9 => h9) rfl dX3_digestOfSet_75 ?_
              refine lv_iload hx hb dX3_digestOfSet_78 (lv_at hl 1 rfl) ?_
              refine lv_iload hx hb dX3_digestOfSet_80 (lv_at hl 0 rfl) ?_
              refine vp_callSi (va_runV (As := [.int (nI i), .int (nI w)]) (rest := [.long ((dgSb sq i (dgSc sq (dgSa (F k) sr d 6).1 i) w) * 31)]) ⟨hx, hb, hml, hown, hts⟩ (conX1_fact l D T (ad 3) (ad 34) (ad 35) sq.1 sq.2.1 sq.2.2 hw.1.sr3 hsq9 (nI i) (nI w)) (cwV 2 hts gX3_digestOfSet_X1_fact rfl rfl rfl (by decide +kernel) ⟨Nat.le_of_ble_eq_true rfl, Nat.le_of_ble_eq_true rfl⟩) (preV hK hw.srr.1 rfl hw.srr) rfl rfl hl.1 rfl (lv_room (Nat.le_of_ble_eq_true rfl)) dX3_digestOfSet_82 ⟨Nat.le_of_ble_eq_true rfl, Nat.le_of_ble_eq_true rfl⟩).run (fun r8 hr8 => ?_)
              rw [hr8]
              refine lv_i2l (v := (facR sq (nI i) (nI w)).toInt64) hx hb dX3_digestOfSet_85 rfl ?_
              refine lv_ladd hx hb dX3_digestOfSet_86 ?_
              refine lv_lstore (lv' := [(4, .long (((dgSb sq i (dgSc sq (dgSa (F k) sr d 6).1 i) w) * 31) + ((facR sq (nI i) (nI w)).toInt64))), (7, .int (nI w)), (6, .int (nI i)), (0, .ref (ad 0)), (1, .long d), (3, .ref (ad (4 + k)))]) hx hb dX3_digestOfSet_87 hl (by decide) rfl (fun ls hl => ?_)
              refine lv_iinc (v := nI (w + 1)) (lv' := [(7, .int (nI (w + 1))), (4, .long (((dgSb sq i (dgSc sq (dgSa (F k) sr d 6).1 i) w) * 31) + ((facR sq (nI i) (nI w)).toInt64))), (6, .int (nI i)), (0, .ref (ad 0)), (1, .long d), (3, .ref (ad (4 + k)))]) hx hb dX3_digestOfSet_89 hl (k := 1) rfl (inc_1 _) (by decide) rfl (fun ls hl => ?_)
              refine lv_goto (tgt := 62) hx hb dX3_digestOfSet_92 (by decide) ?_
              have e9 : ((dgSb sq i (dgSc sq (dgSa (F k) sr d 6).1 i) w) * 31) + ((facR sq (nI i) (nI w)).toInt64) = dgSb sq i (dgSc sq (dgSa (F k) sr d 6).1 i) (w + 1) := by (rw [dgSb_s])
              exact hnext_w _ _ _ ⟨hS, lv_sub (lv_ex hl 1 rfl (congrArg Value.long e9)) [0, 2, 1, 3, 4, 5] rfl, hw⟩
          · skip
            intro H locs ls hin9
            obtain ⟨hS, hl, hw⟩ := hin9
            refine lv_iload hx hb dX3_digestOfSet_62 (lv_at hl 0 rfl) ?_
            refine lv_iconst (v := nI 2) hx hb dX3_digestOfSet_64 (by decide) ?_
            refine lv_icmp_gt (tgt := 95) hx hb dX3_digestOfSet_65 (by decide) (fun c65 => ?_) (fun c65 => ?_)
            · skip
              have c65 : 2 < 3 := (nc_lt (a := 2) (b := 3) (by omega) (by omega)).mp c65
              refine lv_iinc (v := nI (i + 1)) (lv' := [(6, .int (nI (i + 1))), (7, .int (nI 3)), (4, .long (dgSb sq i (dgSc sq (dgSa (F k) sr d 6).1 i) 3)), (0, .ref (ad 0)), (1, .long d), (3, .ref (ad (4 + k)))]) hx hb dX3_digestOfSet_95 hl (k := 1) rfl (inc_1 _) (by decide) rfl (fun ls hl => ?_)
              refine lv_goto (tgt := 47) hx hb dX3_digestOfSet_98 (by decide) ?_
              have e10 : dgSb sq i (dgSc sq (dgSa (F k) sr d 6).1 i) 3 = dgSc sq (dgSa (F k) sr d 6).1 (i + 1) := by (rw [dgSc_s])
              exact hnext _ _ _ ⟨hS, lv_sub (lv_ex hl 2 rfl (congrArg Value.long e10)) [0, 2, 3, 4, 5] rfl, hw⟩
            · skip
              have c65 : ¬ (2 < 3) := fun q9 => c65 ((nc_lt (a := 2) (b := 3) (by omega) (by omega)).mpr q9)
              omega
      · skip
        intro H locs ls hin9
        obtain ⟨hS, hl, hw⟩ := hin9
        refine lv_iload hx hb dX3_digestOfSet_47 (lv_at hl 0 rfl) ?_
        refine lv_aload_n hx hb dX3_digestOfSet_49 rfl (lv_at hl 2 rfl) ?_
        refine q_get (v := .ref (ad 3)) hx hb hts hin3 hown hK hw.o rfl 4 (by decide) (hts (.fieldLink RX3 34 "PuddingstoneLine" "spanRow" "LPuddingstoneLine$SpanRow;") (by decide +kernel)) (fun _ h9 => h9) rfl dX3_digestOfSet_50 ?_
        refine vp_callSi (va_runV (As := []) (rest := [.int (nI sq.2.2)]) ⟨hx, hb, hml, hown, hts⟩ (conX1_size l D T (ad 3) (ad 34) (ad 35) sq.1 sq.2.1 sq.2.2 hw.1.sr3 hsq9) (cwV 0 hts gX3_digestOfSet_X1_size rfl rfl rfl (by decide +kernel) ⟨Nat.le_of_ble_eq_true rfl, Nat.le_of_ble_eq_true rfl⟩) (preV hK hw.srr.1 rfl hw.srr) rfl rfl hl.1 rfl (lv_room (Nat.le_of_ble_eq_true rfl)) dX3_digestOfSet_53 ⟨Nat.le_of_ble_eq_true rfl, Nat.le_of_ble_eq_true rfl⟩).run (fun r11 hr11 => ?_)
        rw [hr11]
        refine lv_icmp_ge (tgt := 101) hx hb dX3_digestOfSet_56 (by decide) (fun c56 => ?_) (fun c56 => ?_)
        · skip
          have c56 : sq.2.2 ≤ sq.2.2 := (nc_le (a := sq.2.2) (b := sq.2.2) (by omega) (by omega)).mp c56
          refine lv_lload hx hb dX3_digestOfSet_101 (lv_at hl 1 rfl) ?_
          exact W.lret (v := dgSc sq (dgSa (F k) sr d 6).1 sq.2.2) hx hb hr (fun t ht _ => ⟨⟨dgSc sq (dgSa (F k) sr d 6).1 sq.2.2, (), rfl, by (rw [dgSet, ← hsq]), by dsimp only; rw [ht]; exact (by rw [← hsq]; exact hw)⟩, hS.F ht⟩) hS.2.2 dX3_digestOfSet_103
        · skip
          have c56 : ¬ (sq.2.2 ≤ sq.2.2) := fun q9 => c56 ((nc_le (a := sq.2.2) (b := sq.2.2) (by omega) (by omega)).mpr q9)
          omega
    · skip
      have c9 : ¬ (5 < 6) := fun q9 => c9 ((nc_lt (a := 5) (b := 6) (by omega) (by omega)).mpr q9)
      omega

set_option maxHeartbeats 4000000 in
set_option maxRecDepth 100000 in
theorem conX3_digestOfFunction (l : Launch) (D : va_G) (T : Nat → ClassId) (ad : Nat → Nat) (F V : Nat → Nat → Int32) (sr : SRs) (C : Nat → Int32) (k : Nat) (d : Int64) (hk : k < 5) : Met l yX3_digestOfFunction wsX3_digestOfFunction ({ frames := 3, cells := 0, slots := 0, locals := 66 }) (cP D T [.long d, .ref (ad (22 + k))] (fun H => PLW D T ad F V sr C H)) (vp_Sl (fun r => r = dgF (V k) d)) 0 0 (fun _ => False) := by
  refine Met.ofW (cc := cX3_digestOfFunction) (maxL := 6) (ret := (some .long)) (by decide) rfl ?_
  intro p e s m args below meth c s₁ B hml hv9
  obtain ⟨rfl, hK, hw⟩ := hv9
  have hx := B.exec
  have hb := B.bytes
  have hr := B.returns
  have hts := atoms_spec (ws := wsX3_digestOfFunction) B.pre
  have hown : s.vm.findClass RX3 = some m.cls := findClass_of_methodNamed B.named
  have hlocks := B.notSynchronized
  have hl := lv_entry ([.long d, .ref (ad (22 + k))]) (n := 6) (Nat.le_of_ble_eq_true rfl)
  rw [lg_entry_eq]
  generalize (lg_sl ([.long d, .ref (ad (22 + k))]) ++ List.replicate (6 - (lg_sl ([.long d, .ref (ad (22 + k))])).length) Slot.unset).toArray = ls at hl ⊢
  have hl : lv_has ls 6 [(0, .long d), (2, .ref (ad (22 + k)))] := hl
  refine lv_lload_n hx hb dX3_digestOfFunction_0 rfl (lv_at hl 0 rfl) ?_
  refine lv_lstore_n (lv' := [(3, .long d), (0, .long d), (2, .ref (ad (22 + k)))]) hx hb dX3_digestOfFunction_1 rfl hl (by decide) rfl (fun ls hl => ?_)
  refine lv_iconst (v := nI 0) hx hb dX3_digestOfFunction_2 (by decide) ?_
  refine lv_istore (lv' := [(5, .int (nI 0)), (3, .long d), (0, .long d), (2, .ref (ad (22 + k)))]) hx hb dX3_digestOfFunction_3 hl (by decide) rfl (fun ls hl => ?_)
  refine q_for (fun (i : Nat) (H : Heap) (locs : List Loc) (ls : Array Slot) => H = s.heap ∧ locs = [] ∧ lv_has ls 6 [(5, .int (nI i)), (3, .long (dgFa (V k) d i)), (0, .long d), (2, .ref (ad (22 + k)))]) (N := 5) 0 (by omega) ?_ ?_ ?_
  · skip
    have e1 : d = dgFa (V k) d 0 := by rfl
    exact ⟨rfl, rfl, lv_sub (lv_ex hl 1 rfl (congrArg Value.long e1)) [0, 1, 2, 3] rfl⟩
  · skip
    intro i H locs ls hi9 hin9 hnext
    obtain ⟨rfl, rfl, hl⟩ := hin9
    refine lv_iload hx hb dX3_digestOfFunction_5 (lv_at hl 0 rfl) ?_
    refine lv_iconst (v := nI 4) hx hb dX3_digestOfFunction_7 (by decide) ?_
    refine lv_icmp_gt (tgt := 31) hx hb dX3_digestOfFunction_8 (by decide) (fun c8 => ?_) (fun c8 => ?_)
    · skip
      have c8 : 4 < i := (nc_lt (a := 4) (b := i) (by omega) (by omega)).mp c8
      omega
    · skip
      have c8 : ¬ (4 < i) := fun q9 => c8 ((nc_lt (a := 4) (b := i) (by omega) (by omega)).mpr q9)
      refine lv_lload_n hx hb dX3_digestOfFunction_11 rfl (lv_at hl 1 rfl) ?_
      refine lv_ldc2 hx hb hown (hts (.constantLong RX3 209 31) (by decide +kernel)) dX3_digestOfFunction_12 ?_
      refine lv_lmul hx hb dX3_digestOfFunction_15 ?_
      refine lv_aload_n hx hb dX3_digestOfFunction_16 rfl (lv_at hl 3 rfl) ?_
      refine lv_iload hx hb dX3_digestOfFunction_17 (lv_at hl 0 rfl) ?_
      refine vp_callSi (va_runS (As := [.ref (ad (22 + k)), .int (nI i)]) (rest := [.long ((dgFa (V k) d i) * 31)]) ⟨hx, hb, hml, hown, hts⟩ (conX3_factOfFunction l D T ad F V sr C k i (by omega) (by omega)) (va_cwS 2 hts gX3_digestOfFunction_X3_factOfFunction rfl rfl rfl (by decide +kernel) ⟨Nat.le_of_ble_eq_true rfl, Nat.le_of_ble_eq_true rfl⟩) (preS hK hw) rfl rfl hl.1 rfl (lv_room (Nat.le_of_ble_eq_true rfl)) dX3_digestOfFunction_19 ⟨Nat.le_of_ble_eq_true rfl, Nat.le_of_ble_eq_true rfl⟩).run (fun r2 hr2 => ?_)
      rw [hr2]
      refine lv_i2l (v := (facFv (V k) i).toInt64) hx hb dX3_digestOfFunction_22 rfl ?_
      refine lv_ladd hx hb dX3_digestOfFunction_23 ?_
      refine lv_lstore_n (lv' := [(3, .long (((dgFa (V k) d i) * 31) + ((facFv (V k) i).toInt64))), (5, .int (nI i)), (0, .long d), (2, .ref (ad (22 + k)))]) hx hb dX3_digestOfFunction_24 rfl hl (by decide) rfl (fun ls hl => ?_)
      refine lv_iinc (v := nI (i + 1)) (lv' := [(5, .int (nI (i + 1))), (3, .long (((dgFa (V k) d i) * 31) + ((facFv (V k) i).toInt64))), (0, .long d), (2, .ref (ad (22 + k)))]) hx hb dX3_digestOfFunction_25 hl (k := 1) rfl (inc_1 _) (by decide) rfl (fun ls hl => ?_)
      refine lv_goto (tgt := 5) hx hb dX3_digestOfFunction_28 (by decide) ?_
      have e3 : ((dgFa (V k) d i) * 31) + ((facFv (V k) i).toInt64) = dgFa (V k) d (i + 1) := by (rw [dgFa_s])
      exact hnext _ _ _ ⟨rfl, rfl, lv_sub (lv_ex hl 1 rfl (congrArg Value.long e3)) [0, 1, 2, 3] rfl⟩
  · skip
    intro H locs ls hin9
    obtain ⟨rfl, rfl, hl⟩ := hin9
    refine lv_iload hx hb dX3_digestOfFunction_5 (lv_at hl 0 rfl) ?_
    refine lv_iconst (v := nI 4) hx hb dX3_digestOfFunction_7 (by decide) ?_
    refine lv_icmp_gt (tgt := 31) hx hb dX3_digestOfFunction_8 (by decide) (fun c8 => ?_) (fun c8 => ?_)
    · skip
      have c8 : 4 < 5 := (nc_lt (a := 4) (b := 5) (by omega) (by omega)).mp c8
      refine lv_iconst (v := nI 0) hx hb dX3_digestOfFunction_31 (by decide) ?_
      refine lv_istore (lv' := [(5, .int (nI 0)), (3, .long (dgFa (V k) d 5)), (0, .long d), (2, .ref (ad (22 + k)))]) hx hb dX3_digestOfFunction_32 hl (by decide) rfl (fun ls hl => ?_)
      refine q_for (fun (i : Nat) (H : Heap) (locs : List Loc) (ls : Array Slot) => H = s.heap ∧ locs = [] ∧ lv_has ls 6 [(5, .int (nI i)), (3, .long (dgFb (V k) (dgFa (V k) d 5) i)), (0, .long d), (2, .ref (ad (22 + k)))]) (N := 201) 0 (by omega) ?_ ?_ ?_
      · skip
        have e4 : dgFa (V k) d 5 = dgFb (V k) (dgFa (V k) d 5) 0 := by rfl
        exact ⟨rfl, rfl, lv_sub (lv_ex hl 1 rfl (congrArg Value.long e4)) [0, 1, 2, 3] rfl⟩
      · skip
        intro i H locs ls hi9 hin9 hnext
        obtain ⟨rfl, rfl, hl⟩ := hin9
        refine lv_iload hx hb dX3_digestOfFunction_34 (lv_at hl 0 rfl) ?_
        refine lv_sipush (v := nI 201) hx hb dX3_digestOfFunction_36 (by decide) ?_
        refine lv_icmp_ge (tgt := 62) hx hb dX3_digestOfFunction_39 (by decide) (fun c39 => ?_) (fun c39 => ?_)
        · skip
          have c39 : 201 ≤ i := (nc_le (a := 201) (b := i) (by omega) (by omega)).mp c39
          omega
        · skip
          have c39 : ¬ (201 ≤ i) := fun q9 => c39 ((nc_le (a := 201) (b := i) (by omega) (by omega)).mpr q9)
          refine lv_lload_n hx hb dX3_digestOfFunction_42 rfl (lv_at hl 1 rfl) ?_
          refine lv_ldc2 hx hb hown (hts (.constantLong RX3 209 31) (by decide +kernel)) dX3_digestOfFunction_43 ?_
          refine lv_lmul hx hb dX3_digestOfFunction_46 ?_
          refine lv_aload_n hx hb dX3_digestOfFunction_47 rfl (lv_at hl 3 rfl) ?_
          refine lv_iload hx hb dX3_digestOfFunction_48 (lv_at hl 0 rfl) ?_
          refine vp_callSi (va_runV (As := [.int (nI i)]) (rest := [.long ((dgFb (V k) (dgFa (V k) d 5) i) * 31)]) ⟨hx, hb, hml, hown, hts⟩ (conX2_at l D T (ad (22 + k)) (ad (28 + k)) (V k) (nI i)) (cwV 1 hts gX3_digestOfFunction_X2_at rfl rfl rfl (by decide +kernel) ⟨Nat.le_of_ble_eq_true rfl, Nat.le_of_ble_eq_true rfl⟩) (preV hK (hw.f k (by omega)) rfl ⟨(hw.sf k (by omega)).1, (hw.sf k (by omega)).2.1, (hw.sf k (by omega)).2.2⟩) rfl rfl hl.1 rfl (lv_room (Nat.le_of_ble_eq_true rfl)) dX3_digestOfFunction_50 ⟨Nat.le_of_ble_eq_true rfl, Nat.le_of_ble_eq_true rfl⟩).run (fun r5 hr5 => ?_)
          rw [hr5]
          refine lv_i2l (v := (atV (V k) (nI i)).toInt64) hx hb dX3_digestOfFunction_53 rfl ?_
          refine lv_ladd hx hb dX3_digestOfFunction_54 ?_
          refine lv_lstore_n (lv' := [(3, .long (((dgFb (V k) (dgFa (V k) d 5) i) * 31) + ((atV (V k) (nI i)).toInt64))), (5, .int (nI i)), (0, .long d), (2, .ref (ad (22 + k)))]) hx hb dX3_digestOfFunction_55 rfl hl (by decide) rfl (fun ls hl => ?_)
          refine lv_iinc (v := nI (i + 1)) (lv' := [(5, .int (nI (i + 1))), (3, .long (((dgFb (V k) (dgFa (V k) d 5) i) * 31) + ((atV (V k) (nI i)).toInt64))), (0, .long d), (2, .ref (ad (22 + k)))]) hx hb dX3_digestOfFunction_56 hl (k := 1) rfl (inc_1 _) (by decide) rfl (fun ls hl => ?_)
          refine lv_goto (tgt := 34) hx hb dX3_digestOfFunction_59 (by decide) ?_
          have e6 : ((dgFb (V k) (dgFa (V k) d 5) i) * 31) + ((atV (V k) (nI i)).toInt64) = dgFb (V k) (dgFa (V k) d 5) (i + 1) := by (rw [dgFb_s])
          exact hnext _ _ _ ⟨rfl, rfl, lv_sub (lv_ex hl 1 rfl (congrArg Value.long e6)) [0, 1, 2, 3] rfl⟩
      · skip
        intro H locs ls hin9
        obtain ⟨rfl, rfl, hl⟩ := hin9
        refine lv_iload hx hb dX3_digestOfFunction_34 (lv_at hl 0 rfl) ?_
        refine lv_sipush (v := nI 201) hx hb dX3_digestOfFunction_36 (by decide) ?_
        refine lv_icmp_ge (tgt := 62) hx hb dX3_digestOfFunction_39 (by decide) (fun c39 => ?_) (fun c39 => ?_)
        · skip
          have c39 : 201 ≤ 201 := (nc_le (a := 201) (b := 201) (by omega) (by omega)).mp c39
          refine lv_lload_n hx hb dX3_digestOfFunction_62 rfl (lv_at hl 1 rfl) ?_
          exact W.lret (v := dgFb (V k) (dgFa (V k) d 5) 201) hx hb hr (fun t ht _ => ⟨dgFb (V k) (dgFa (V k) d 5) 201, rfl, by rfl, ht⟩) (fun q hq => absurd hq List.not_mem_nil) dX3_digestOfFunction_63
        · skip
          have c39 : ¬ (201 ≤ 201) := fun q9 => c39 ((nc_le (a := 201) (b := 201) (by omega) (by omega)).mpr q9)
          omega
    · skip
      have c8 : ¬ (4 < 5) := fun q9 => c8 ((nc_lt (a := 4) (b := 5) (by omega) (by omega)).mpr q9)
      omega

set_option maxHeartbeats 4000000 in
set_option maxRecDepth 100000 in
theorem conX3_digest (l : Launch) (D : va_G) (T : Nat → ClassId) (ad : Nat → Nat) (F V : Nat → Nat → Int32) (sr : SRs) (C : Nat → Int32)  (hsn : sr.2.2 ≤ 201) : Met l yX3_digest wsX3_digest ({ frames := 6, cells := 0, slots := 0, locals := 135 }) (cP D T [.ref (ad 0)] (fun H => PLW D T ad F V sr C H)) (va_Ql (fun (r : Int64) (_ : Unit) => r = dgG F V sr) (fun _ t => ∃ C9 : Nat → Int32, PLW D T ad F V (dgA F sr 8).2 C9 t.heap) (PLA ad)) 0 0 (PLA ad) := by
  refine Met.ofW (cc := cX3_digest) (maxL := 4) (ret := (some .long)) (by decide) rfl ?_
  intro p e s m args below meth c s₁ B hml hv9
  obtain ⟨rfl, hK, hw⟩ := hv9
  have hx := B.exec
  have hb := B.bytes
  have hr := B.returns
  have hts := atoms_spec (ws := wsX3_digest) B.pre
  have hown : s.vm.findClass RX3 = some m.cls := findClass_of_methodNamed B.named
  have hlocks := B.notSynchronized
  generalize hAe : (PLA ad) = A
  have hA : ∀ i : Nat, i < 37 → A (ad i) := fun i hi => by subst hAe; exact ⟨i, hi, rfl⟩
  have hS : va_S A s.heap s.heap [] := va_S.rf
  have hl := lv_entry ([.ref (ad 0)]) (n := 4) (Nat.le_of_ble_eq_true rfl)
  rw [lg_entry_eq]
  generalize (lg_sl ([.ref (ad 0)]) ++ List.replicate (4 - (lg_sl ([.ref (ad 0)])).length) Slot.unset).toArray = ls at hl ⊢
  have hl : lv_has ls 4 [(0, .ref (ad 0))] := hl
  refine lv_ldc2 hx hb hown (hts (.constantLong RX3 199 965) (by decide +kernel)) dX3_digest_0 ?_
  refine lv_lstore_n (lv' := [(1, .long 965), (0, .ref (ad 0))]) hx hb dX3_digest_3 rfl hl (by decide) rfl (fun ls hl => ?_)
  refine lv_iconst (v := nI 0) hx hb dX3_digest_4 (by decide) ?_
  refine lv_istore_n (lv' := [(3, .int (nI 0)), (1, .long 965), (0, .ref (ad 0))]) hx hb dX3_digest_5 rfl hl (by decide) rfl (fun ls hl => ?_)
  refine q_for (fun (i : Nat) (H : Heap) (locs : List Loc) (ls : Array Slot) => va_S A s.heap H locs ∧ lv_has ls 4 [(3, .int (nI i)), (1, .long ((dgA F sr i).1)), (0, .ref (ad 0))] ∧ PLW D T ad F V ((dgA F sr i).2) C H) (N := 8) 0 (by omega) ?_ ?_ ?_
  · skip
    have e1 : 965 = (dgA F sr 0).1 := by rfl
    have e2 : sr = (dgA F sr 0).2 := by rfl
    exact ⟨hS, lv_sub (lv_ex hl 1 rfl (congrArg Value.long e1)) [0, 1, 2] rfl, ((e2 ▸ hw) : PLW D T ad F V ((dgA F sr 0).2) C _)⟩
  · skip
    intro i H locs ls hi9 hin9 hnext
    obtain ⟨hS, hl, hw⟩ := hin9
    refine lv_iload_n hx hb dX3_digest_6 rfl (lv_at hl 0 rfl) ?_
    refine lv_bipush (v := nI 8) hx hb dX3_digest_7 (by decide) ?_
    refine lv_icmp_ge (tgt := 29) hx hb dX3_digest_9 (by decide) (fun c9 => ?_) (fun c9 => ?_)
    · skip
      have c9 : 8 ≤ i := (nc_le (a := 8) (b := i) (by omega) (by omega)).mp c9
      omega
    · skip
      have c9 : ¬ (8 ≤ i) := fun q9 => c9 ((nc_le (a := 8) (b := i) (by omega) (by omega)).mpr q9)
      refine lv_aload_n hx hb dX3_digest_12 rfl (lv_at hl 2 rfl) ?_
      refine lv_lload_n hx hb dX3_digest_13 rfl (lv_at hl 1 rfl) ?_
      refine lv_aload_n hx hb dX3_digest_14 rfl (lv_at hl 2 rfl) ?_
      refine lv_iload_n hx hb dX3_digest_15 rfl (lv_at hl 0 rfl) ?_
      refine va_csr (ad := fun k => .ref k) (va_runV (As := [.int (nI i)]) (rest := [.long ((dgA F sr i).1), .ref (ad 0)]) ⟨hx, hb, hml, hown, hts⟩ (conX3_setAt l D T ad F V ((dgA F sr i).2) C i (by omega)) (cwV 1 hts gX3_digest_X3_setAt rfl rfl rfl (by decide +kernel) ⟨Nat.le_of_ble_eq_true rfl, Nat.le_of_ble_eq_true rfl⟩) (preV hK hw.o rfl hw) rfl rfl hl.1 rfl (lv_room (Nat.le_of_ble_eq_true rfl)) dX3_digest_16 ⟨Nat.le_of_ble_eq_true rfl, Nat.le_of_ble_eq_true rfl⟩).run (fun r3 hr3 => ?_)
      subst hr3
      refine va_calll (va_runV (As := [.long ((dgA F sr i).1), .ref (ad (4 + i))]) (rest := []) ⟨hx, hb, hml, hown, hts⟩ (conX3_digestOfSet l D T ad F V ((dgA F sr i).2) C i ((dgA F sr i).1) (by omega) (dgA_le hsn)) (cwV 2 hts gX3_digest_X3_digestOfSet rfl rfl rfl (by decide +kernel) ⟨Nat.le_of_ble_eq_true rfl, Nat.le_of_ble_eq_true rfl⟩) (preV hK hw.o rfl hw) rfl rfl hl.1 rfl (lv_room (Nat.le_of_ble_eq_true rfl)) dX3_digest_19 ⟨Nat.le_of_ble_eq_true rfl, Nat.le_of_ble_eq_true rfl⟩) hS (fun q _ h9 => (by obtain ⟨i8, h7, h8⟩ := (show PLA ad q from h9); rw [h8]; exact hA i8 h7)) (fun q h9 => (by obtain ⟨i8, h7, h8⟩ := (show PLA ad q from h9); rw [h8]; exact hA i8 h7)) (fun r u t H1 locs1 ht hvm hw9 hB hz1 hk1 hS => ?_)
      try dsimp only at hB
      rw [ht] at hB
      rw [hw9]
      replace hw := hB
      refine lv_lstore_n (lv' := [(1, .long (dgSet (F i) ((dgA F sr i).2) ((dgA F sr i).1))), (3, .int (nI i)), (0, .ref (ad 0))]) hx hb dX3_digest_22 rfl hl (by decide) rfl (fun ls hl => ?_)
      refine lv_iinc (v := nI (i + 1)) (lv' := [(3, .int (nI (i + 1))), (1, .long (dgSet (F i) ((dgA F sr i).2) ((dgA F sr i).1))), (0, .ref (ad 0))]) hx hb dX3_digest_23 hl (k := 1) rfl (inc_1 _) (by decide) rfl (fun ls hl => ?_)
      refine lv_goto (tgt := 6) hx hb dX3_digest_26 (by decide) ?_
      have e4 : dgSet (F i) ((dgA F sr i).2) ((dgA F sr i).1) = (dgA F sr (i + 1)).1 := by (rw [dgA_s])
      have e5 : dgSetS (F i) ((dgA F sr i).2) ((dgA F sr i).1) = (dgA F sr (i + 1)).2 := by (rw [dgA_s])
      exact hnext _ _ _ ⟨hS, lv_sub (lv_ex hl 1 rfl (congrArg Value.long e4)) [0, 1, 2] rfl, ((e5 ▸ hw) : PLW D T ad F V ((dgA F sr (i + 1)).2) C _)⟩
  · skip
    intro H locs ls hin9
    obtain ⟨hS, hl, hw⟩ := hin9
    refine lv_iload_n hx hb dX3_digest_6 rfl (lv_at hl 0 rfl) ?_
    refine lv_bipush (v := nI 8) hx hb dX3_digest_7 (by decide) ?_
    refine lv_icmp_ge (tgt := 29) hx hb dX3_digest_9 (by decide) (fun c9 => ?_) (fun c9 => ?_)
    · skip
      have c9 : 8 ≤ 8 := (nc_le (a := 8) (b := 8) (by omega) (by omega)).mp c9
      refine lv_iconst (v := nI 0) hx hb dX3_digest_29 (by decide) ?_
      refine lv_istore_n (lv' := [(3, .int (nI 0)), (1, .long ((dgA F sr 8).1)), (0, .ref (ad 0))]) hx hb dX3_digest_30 rfl hl (by decide) rfl (fun ls hl => ?_)
      refine q_for (fun (i : Nat) (H : Heap) (locs : List Loc) (ls : Array Slot) => va_S A s.heap H locs ∧ lv_has ls 4 [(3, .int (nI i)), (1, .long (dgB V (dgA F sr 8).1 i)), (0, .ref (ad 0))] ∧ PLW D T ad F V ((dgA F sr 8).2) C H) (N := 5) 0 (by omega) ?_ ?_ ?_
      · skip
        have e6 : (dgA F sr 8).1 = dgB V (dgA F sr 8).1 0 := by rfl
        exact ⟨hS, lv_sub (lv_ex hl 1 rfl (congrArg Value.long e6)) [0, 1, 2] rfl, hw⟩
      · skip
        intro i H locs ls hi9 hin9 hnext
        obtain ⟨hS, hl, hw⟩ := hin9
        refine lv_iload_n hx hb dX3_digest_31 rfl (lv_at hl 0 rfl) ?_
        refine lv_iconst (v := nI 5) hx hb dX3_digest_32 (by decide) ?_
        refine lv_icmp_ge (tgt := 52) hx hb dX3_digest_33 (by decide) (fun c33 => ?_) (fun c33 => ?_)
        · skip
          have c33 : 5 ≤ i := (nc_le (a := 5) (b := i) (by omega) (by omega)).mp c33
          omega
        · skip
          have c33 : ¬ (5 ≤ i) := fun q9 => c33 ((nc_le (a := 5) (b := i) (by omega) (by omega)).mpr q9)
          refine lv_lload_n hx hb dX3_digest_36 rfl (lv_at hl 1 rfl) ?_
          refine lv_aload_n hx hb dX3_digest_37 rfl (lv_at hl 2 rfl) ?_
          refine lv_iload_n hx hb dX3_digest_38 rfl (lv_at hl 0 rfl) ?_
          refine va_csr (ad := fun k => .ref k) (va_runV (As := [.int (nI i)]) (rest := [.long (dgB V (dgA F sr 8).1 i)]) ⟨hx, hb, hml, hown, hts⟩ (conX3_functionAt l D T ad F V ((dgA F sr 8).2) C i (by omega)) (cwV 1 hts gX3_digest_X3_functionAt rfl rfl rfl (by decide +kernel) ⟨Nat.le_of_ble_eq_true rfl, Nat.le_of_ble_eq_true rfl⟩) (preV hK hw.o rfl hw) rfl rfl hl.1 rfl (lv_room (Nat.le_of_ble_eq_true rfl)) dX3_digest_39 ⟨Nat.le_of_ble_eq_true rfl, Nat.le_of_ble_eq_true rfl⟩).run (fun r7 hr7 => ?_)
          subst hr7
          refine vp_callSl (va_runS (As := [.long (dgB V (dgA F sr 8).1 i), .ref (ad (22 + i))]) (rest := []) ⟨hx, hb, hml, hown, hts⟩ (conX3_digestOfFunction l D T ad F V ((dgA F sr 8).2) C i (dgB V (dgA F sr 8).1 i) (by omega)) (va_cwS 2 hts gX3_digest_X3_digestOfFunction rfl rfl rfl (by decide +kernel) ⟨Nat.le_of_ble_eq_true rfl, Nat.le_of_ble_eq_true rfl⟩) (preS hK hw) rfl rfl hl.1 rfl (lv_room (Nat.le_of_ble_eq_true rfl)) dX3_digest_42 ⟨Nat.le_of_ble_eq_true rfl, Nat.le_of_ble_eq_true rfl⟩).run (fun r8 hr8 => ?_)
          rw [hr8]
          refine lv_lstore_n (lv' := [(1, .long (dgF (V i) (dgB V (dgA F sr 8).1 i))), (3, .int (nI i)), (0, .ref (ad 0))]) hx hb dX3_digest_45 rfl hl (by decide) rfl (fun ls hl => ?_)
          refine lv_iinc (v := nI (i + 1)) (lv' := [(3, .int (nI (i + 1))), (1, .long (dgF (V i) (dgB V (dgA F sr 8).1 i))), (0, .ref (ad 0))]) hx hb dX3_digest_46 hl (k := 1) rfl (inc_1 _) (by decide) rfl (fun ls hl => ?_)
          refine lv_goto (tgt := 31) hx hb dX3_digest_49 (by decide) ?_
          have e9 : dgF (V i) (dgB V (dgA F sr 8).1 i) = dgB V (dgA F sr 8).1 (i + 1) := by (rw [dgB_s])
          exact hnext _ _ _ ⟨hS, lv_sub (lv_ex hl 1 rfl (congrArg Value.long e9)) [0, 1, 2] rfl, hw⟩
      · skip
        intro H locs ls hin9
        obtain ⟨hS, hl, hw⟩ := hin9
        refine lv_iload_n hx hb dX3_digest_31 rfl (lv_at hl 0 rfl) ?_
        refine lv_iconst (v := nI 5) hx hb dX3_digest_32 (by decide) ?_
        refine lv_icmp_ge (tgt := 52) hx hb dX3_digest_33 (by decide) (fun c33 => ?_) (fun c33 => ?_)
        · skip
          have c33 : 5 ≤ 5 := (nc_le (a := 5) (b := 5) (by omega) (by omega)).mp c33
          refine lv_lload_n hx hb dX3_digest_52 rfl (lv_at hl 1 rfl) ?_
          refine lv_ldc2 hx hb hown (hts (.constantLong RX3 209 31) (by decide +kernel)) dX3_digest_53 ?_
          refine lv_lmul hx hb dX3_digest_56 ?_
          refine lv_aload_n hx hb dX3_digest_57 rfl (lv_at hl 2 rfl) ?_
          refine lv_sipush (v := nI 255) hx hb dX3_digest_58 (by decide) ?_
          refine lv_iconst (v := nI 1) hx hb dX3_digest_61 (by decide) ?_
          refine vp_callSi (va_runV (As := [.int (nI 255), .int (nI 1)]) (rest := [.long ((dgB V (dgA F sr 8).1 5) * 31)]) ⟨hx, hb, hml, hown, hts⟩ (conX3_countThicker l D T ad F V ((dgA F sr 8).2) C 255 (nI 1) (by omega)) (cwV 2 hts gX3_digest_X3_countThicker rfl rfl rfl (by decide +kernel) ⟨Nat.le_of_ble_eq_true rfl, Nat.le_of_ble_eq_true rfl⟩) (preV hK hw.o rfl hw) rfl rfl hl.1 rfl (lv_room (Nat.le_of_ble_eq_true rfl)) dX3_digest_62 ⟨Nat.le_of_ble_eq_true rfl, Nat.le_of_ble_eq_true rfl⟩).run (fun r10 hr10 => ?_)
          rw [hr10]
          refine lv_i2l (v := (cthZ F 255 (nI 1) 201).toInt64) hx hb dX3_digest_65 rfl ?_
          refine lv_ladd hx hb dX3_digest_66 ?_
          refine lv_lstore_n (lv' := [(1, .long (((dgB V (dgA F sr 8).1 5) * 31) + ((cthZ F 255 (nI 1) 201).toInt64))), (3, .int (nI 5)), (0, .ref (ad 0))]) hx hb dX3_digest_67 rfl hl (by decide) rfl (fun ls hl => ?_)
          refine lv_lload_n hx hb dX3_digest_68 rfl (lv_at hl 0 rfl) ?_
          refine lv_ldc2 hx hb hown (hts (.constantLong RX3 209 31) (by decide +kernel)) dX3_digest_69 ?_
          refine lv_lmul hx hb dX3_digest_72 ?_
          refine lv_aload_n hx hb dX3_digest_73 rfl (lv_at hl 2 rfl) ?_
          refine lv_sipush (v := nI 255) hx hb dX3_digest_74 (by decide) ?_
          refine lv_iconst (v := nI 2) hx hb dX3_digest_77 (by decide) ?_
          refine vp_callSi (va_runV (As := [.int (nI 255), .int (nI 2)]) (rest := [.long ((((dgB V (dgA F sr 8).1 5) * 31) + ((cthZ F 255 (nI 1) 201).toInt64)) * 31)]) ⟨hx, hb, hml, hown, hts⟩ (conX3_countThicker l D T ad F V ((dgA F sr 8).2) C 255 (nI 2) (by omega)) (cwV 2 hts gX3_digest_X3_countThicker rfl rfl rfl (by decide +kernel) ⟨Nat.le_of_ble_eq_true rfl, Nat.le_of_ble_eq_true rfl⟩) (preV hK hw.o rfl hw) rfl rfl hl.1 rfl (lv_room (Nat.le_of_ble_eq_true rfl)) dX3_digest_78 ⟨Nat.le_of_ble_eq_true rfl, Nat.le_of_ble_eq_true rfl⟩).run (fun r11 hr11 => ?_)
          rw [hr11]
          refine lv_i2l (v := (cthZ F 255 (nI 2) 201).toInt64) hx hb dX3_digest_81 rfl ?_
          refine lv_ladd hx hb dX3_digest_82 ?_
          refine lv_lstore_n (lv' := [(1, .long (((((dgB V (dgA F sr 8).1 5) * 31) + ((cthZ F 255 (nI 1) 201).toInt64)) * 31) + ((cthZ F 255 (nI 2) 201).toInt64))), (3, .int (nI 5)), (0, .ref (ad 0))]) hx hb dX3_digest_83 rfl hl (by decide) rfl (fun ls hl => ?_)
          refine lv_lload_n hx hb dX3_digest_84 rfl (lv_at hl 0 rfl) ?_
          refine lv_ldc2 hx hb hown (hts (.constantLong RX3 209 31) (by decide +kernel)) dX3_digest_85 ?_
          refine lv_lmul hx hb dX3_digest_88 ?_
          refine lv_aload_n hx hb dX3_digest_89 rfl (lv_at hl 2 rfl) ?_
          refine lv_sipush (v := nI 255) hx hb dX3_digest_90 (by decide) ?_
          refine vp_callSi (va_runV (As := [.int (nI 255)]) (rest := [.long ((((((dgB V (dgA F sr 8).1 5) * 31) + ((cthZ F 255 (nI 1) 201).toInt64)) * 31) + ((cthZ F 255 (nI 2) 201).toInt64)) * 31)]) ⟨hx, hb, hml, hown, hts⟩ (conX3_countPins l D T ad F V ((dgA F sr 8).2) C 255 (by omega)) (cwV 1 hts gX3_digest_X3_countPins rfl rfl rfl (by decide +kernel) ⟨Nat.le_of_ble_eq_true rfl, Nat.le_of_ble_eq_true rfl⟩) (preV hK hw.o rfl hw) rfl rfl hl.1 rfl (lv_room (Nat.le_of_ble_eq_true rfl)) dX3_digest_93 ⟨Nat.le_of_ble_eq_true rfl, Nat.le_of_ble_eq_true rfl⟩).run (fun r12 hr12 => ?_)
          rw [hr12]
          refine lv_i2l (v := ((cpS F 255 201).1).toInt64) hx hb dX3_digest_96 rfl ?_
          refine lv_ladd hx hb dX3_digest_97 ?_
          refine lv_lstore_n (lv' := [(1, .long (((((((dgB V (dgA F sr 8).1 5) * 31) + ((cthZ F 255 (nI 1) 201).toInt64)) * 31) + ((cthZ F 255 (nI 2) 201).toInt64)) * 31) + (((cpS F 255 201).1).toInt64))), (3, .int (nI 5)), (0, .ref (ad 0))]) hx hb dX3_digest_98 rfl hl (by decide) rfl (fun ls hl => ?_)
          refine lv_lload_n hx hb dX3_digest_99 rfl (lv_at hl 0 rfl) ?_
          refine lv_ldc2 hx hb hown (hts (.constantLong RX3 209 31) (by decide +kernel)) dX3_digest_100 ?_
          refine lv_lmul hx hb dX3_digest_103 ?_
          refine lv_aload_n hx hb dX3_digest_104 rfl (lv_at hl 2 rfl) ?_
          refine lv_sipush (v := nI 255) hx hb dX3_digest_105 (by decide) ?_
          refine vp_callSi (va_runV (As := [.int (nI 255)]) (rest := [.long ((((((((dgB V (dgA F sr 8).1 5) * 31) + ((cthZ F 255 (nI 1) 201).toInt64)) * 31) + ((cthZ F 255 (nI 2) 201).toInt64)) * 31) + (((cpS F 255 201).1).toInt64)) * 31)]) ⟨hx, hb, hml, hown, hts⟩ (conX3_countPins l D T ad F V ((dgA F sr 8).2) C 255 (by omega)) (cwV 1 hts gX3_digest_X3_countPins rfl rfl rfl (by decide +kernel) ⟨Nat.le_of_ble_eq_true rfl, Nat.le_of_ble_eq_true rfl⟩) (preV hK hw.o rfl hw) rfl rfl hl.1 rfl (lv_room (Nat.le_of_ble_eq_true rfl)) dX3_digest_108 ⟨Nat.le_of_ble_eq_true rfl, Nat.le_of_ble_eq_true rfl⟩).run (fun r13 hr13 => ?_)
          rw [hr13]
          refine lv_i2l (v := ((cpS F 255 201).1).toInt64) hx hb dX3_digest_111 rfl ?_
          refine lv_ladd hx hb dX3_digest_112 ?_
          refine lv_lstore_n (lv' := [(1, .long (((((((((dgB V (dgA F sr 8).1 5) * 31) + ((cthZ F 255 (nI 1) 201).toInt64)) * 31) + ((cthZ F 255 (nI 2) 201).toInt64)) * 31) + (((cpS F 255 201).1).toInt64)) * 31) + (((cpS F 255 201).1).toInt64))), (3, .int (nI 5)), (0, .ref (ad 0))]) hx hb dX3_digest_113 rfl hl (by decide) rfl (fun ls hl => ?_)
          refine lv_iconst (v := nI 0) hx hb dX3_digest_114 (by decide) ?_
          refine lv_istore_n (lv' := [(3, .int (nI 0)), (1, .long (((((((((dgB V (dgA F sr 8).1 5) * 31) + ((cthZ F 255 (nI 1) 201).toInt64)) * 31) + ((cthZ F 255 (nI 2) 201).toInt64)) * 31) + (((cpS F 255 201).1).toInt64)) * 31) + (((cpS F 255 201).1).toInt64))), (0, .ref (ad 0))]) hx hb dX3_digest_115 rfl hl (by decide) rfl (fun ls hl => ?_)
          refine q_for (fun (i : Nat) (H : Heap) (locs : List Loc) (ls : Array Slot) => va_S A s.heap H locs ∧ lv_has ls 4 [(3, .int (nI i)), (1, .long (dgCg F (dgTg F (dgB V (dgA F sr 8).1 5)) i)), (0, .ref (ad 0))] ∧ ∃ C9 : Nat → Int32, PLW D T ad F V ((dgA F sr 8).2) C9 H) (N := 8) 0 (by omega) ?_ ?_ ?_
          · skip
            have e14 : ((((((((dgB V (dgA F sr 8).1 5) * 31) + ((cthZ F 255 (nI 1) 201).toInt64)) * 31) + ((cthZ F 255 (nI 2) 201).toInt64)) * 31) + (((cpS F 255 201).1).toInt64)) * 31) + (((cpS F 255 201).1).toInt64) = dgCg F (dgTg F (dgB V (dgA F sr 8).1 5)) 0 := by rfl
            exact ⟨hS, lv_sub (lv_ex hl 1 rfl (congrArg Value.long e14)) [0, 1, 2] rfl, ⟨_, hw⟩⟩
          · skip
            intro i H locs ls hi9 hin9 hnext
            obtain ⟨hS, hl, ⟨C9, hw⟩⟩ := hin9
            refine lv_iload_n hx hb dX3_digest_116 rfl (lv_at hl 0 rfl) ?_
            refine lv_bipush (v := nI 8) hx hb dX3_digest_117 (by decide) ?_
            refine lv_icmp_ge (tgt := 152) hx hb dX3_digest_119 (by decide) (fun c119 => ?_) (fun c119 => ?_)
            · skip
              have c119 : 8 ≤ i := (nc_le (a := 8) (b := i) (by omega) (by omega)).mp c119
              omega
            · skip
              have c119 : ¬ (8 ≤ i) := fun q9 => c119 ((nc_le (a := 8) (b := i) (by omega) (by omega)).mpr q9)
              refine lv_lload_n hx hb dX3_digest_122 rfl (lv_at hl 1 rfl) ?_
              refine lv_ldc2 hx hb hown (hts (.constantLong RX3 209 31) (by decide +kernel)) dX3_digest_123 ?_
              refine lv_lmul hx hb dX3_digest_126 ?_
              refine lv_aload_n hx hb dX3_digest_127 rfl (lv_at hl 2 rfl) ?_
              refine lv_sipush (v := nI 255) hx hb dX3_digest_128 (by decide) ?_
              refine lv_iconst (v := nI 1) hx hb dX3_digest_131 (by decide) ?_
              refine lv_iload_n hx hb dX3_digest_132 rfl (lv_at hl 0 rfl) ?_
              refine lv_ishl hx hb dX3_digest_133 ?_
              refine lv_ixor hx hb dX3_digest_134 ?_
              rw [xor_e (by omega)]
              refine lv_aload_n hx hb dX3_digest_135 rfl (lv_at hl 2 rfl) ?_
              refine lv_iload_n hx hb dX3_digest_136 rfl (lv_at hl 0 rfl) ?_
              refine va_csr (ad := fun k => .ref k) (va_runV (As := [.int (nI i)]) (rest := [.int (nI (255 - 2 ^ i)), .ref (ad 0), .long ((dgCg F (dgTg F (dgB V (dgA F sr 8).1 5)) i) * 31)]) ⟨hx, hb, hml, hown, hts⟩ (conX3_setAt l D T ad F V ((dgA F sr 8).2) C9 i (by omega)) (cwV 1 hts gX3_digest_X3_setAt rfl rfl rfl (by decide +kernel) ⟨Nat.le_of_ble_eq_true rfl, Nat.le_of_ble_eq_true rfl⟩) (preV hK hw.o rfl hw) rfl rfl hl.1 rfl (lv_room (Nat.le_of_ble_eq_true rfl)) dX3_digest_137 ⟨Nat.le_of_ble_eq_true rfl, Nat.le_of_ble_eq_true rfl⟩).run (fun r15 hr15 => ?_)
              subst hr15
              refine va_calli (va_runV (As := [.int (nI (255 - 2 ^ i)), .ref (ad (4 + i))]) (rest := [.long ((dgCg F (dgTg F (dgB V (dgA F sr 8).1 5)) i) * 31)]) ⟨hx, hb, hml, hown, hts⟩ (conX3_takeCover l D T ad F V ((dgA F sr 8).2) C9 i (255 - 2 ^ i) (by omega) (by first | omega | exact Nat.sub_le _ _)) (cwV 2 hts gX3_digest_X3_takeCover rfl rfl rfl (by decide +kernel) ⟨Nat.le_of_ble_eq_true rfl, Nat.le_of_ble_eq_true rfl⟩) (preV hK hw.o rfl hw) rfl rfl hl.1 rfl (lv_room (Nat.le_of_ble_eq_true rfl)) dX3_digest_140 ⟨Nat.le_of_ble_eq_true rfl, Nat.le_of_ble_eq_true rfl⟩) hS (fun q _ h9 => (by obtain ⟨i8, h7, h8⟩ := (show PLA ad q from h9); rw [h8]; exact hA i8 h7)) (fun q h9 => (by obtain ⟨i8, h7, h8⟩ := (show PLA ad q from h9); rw [h8]; exact hA i8 h7)) (fun r u t H1 locs1 ht hvm hw9 hB hz1 hk1 hS => ?_)
              try dsimp only at hB
              rw [ht] at hB
              rw [hw9]
              obtain ⟨cz1, hw⟩ := hB
              refine lv_i2l (v := (covV F (255 - 2 ^ i) (F i)).toInt64) hx hb dX3_digest_143 rfl ?_
              refine lv_ladd hx hb dX3_digest_144 ?_
              refine lv_lstore_n (lv' := [(1, .long (((dgCg F (dgTg F (dgB V (dgA F sr 8).1 5)) i) * 31) + ((covV F (255 - 2 ^ i) (F i)).toInt64))), (3, .int (nI i)), (0, .ref (ad 0))]) hx hb dX3_digest_145 rfl hl (by decide) rfl (fun ls hl => ?_)
              refine lv_iinc (v := nI (i + 1)) (lv' := [(3, .int (nI (i + 1))), (1, .long (((dgCg F (dgTg F (dgB V (dgA F sr 8).1 5)) i) * 31) + ((covV F (255 - 2 ^ i) (F i)).toInt64))), (0, .ref (ad 0))]) hx hb dX3_digest_146 hl (k := 1) rfl (inc_1 _) (by decide) rfl (fun ls hl => ?_)
              refine lv_goto (tgt := 116) hx hb dX3_digest_149 (by decide) ?_
              have e16 : ((dgCg F (dgTg F (dgB V (dgA F sr 8).1 5)) i) * 31) + ((covV F (255 - 2 ^ i) (F i)).toInt64) = dgCg F (dgTg F (dgB V (dgA F sr 8).1 5)) (i + 1) := by (rw [dgCg_s])
              exact hnext _ _ _ ⟨hS, lv_sub (lv_ex hl 1 rfl (congrArg Value.long e16)) [0, 1, 2] rfl, ⟨_, hw⟩⟩
          · skip
            intro H locs ls hin9
            obtain ⟨hS, hl, ⟨C9, hw⟩⟩ := hin9
            refine lv_iload_n hx hb dX3_digest_116 rfl (lv_at hl 0 rfl) ?_
            refine lv_bipush (v := nI 8) hx hb dX3_digest_117 (by decide) ?_
            refine lv_icmp_ge (tgt := 152) hx hb dX3_digest_119 (by decide) (fun c119 => ?_) (fun c119 => ?_)
            · skip
              have c119 : 8 ≤ 8 := (nc_le (a := 8) (b := 8) (by omega) (by omega)).mp c119
              refine lv_lload_n hx hb dX3_digest_152 rfl (lv_at hl 1 rfl) ?_
              exact W.lret (v := dgCg F (dgTg F (dgB V (dgA F sr 8).1 5)) 8) hx hb hr (fun t ht _ => ⟨⟨dgCg F (dgTg F (dgB V (dgA F sr 8).1 5)) 8, (), rfl, by rfl, by dsimp only; rw [ht]; exact ⟨_, hw⟩⟩, hS.F ht⟩) hS.2.2 dX3_digest_153
            · skip
              have c119 : ¬ (8 ≤ 8) := fun q9 => c119 ((nc_le (a := 8) (b := 8) (by omega) (by omega)).mpr q9)
              omega
        · skip
          have c33 : ¬ (5 ≤ 5) := fun q9 => c33 ((nc_le (a := 5) (b := 5) (by omega) (by omega)).mpr q9)
          omega
    · skip
      have c9 : ¬ (8 ≤ 8) := fun q9 => c9 ((nc_le (a := 8) (b := 8) (by omega) (by omega)).mpr q9)
      omega
