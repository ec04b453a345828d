set_option maxHeartbeats 4000000 in
set_option maxRecDepth 100000 in
theorem conX3_memberOrNull (l : Launch) (D : va_G) (T : Nat → ClassId) (ad : Nat → Nat) (F V : Nat → Nat → Int32) (sr : SRs) (C : Nat → Int32) (fam k : Nat) (hf : fam ≤ 255) (hk : k < 8) : Met l yX3_memberOrNull wsX3_memberOrNull ({ frames := 1, cells := 0, slots := 0, locals := 21 }) (cP D T [.ref (ad 0), .int (nI fam), .int (nI k)] (fun H => PLW D T ad F V sr C H)) (va_Sq (fun r => r = memN ad fam k)) 0 0 (fun _ => False) := by
  refine Met.ofW (cc := cX3_memberOrNull) (maxL := 3) (ret := (some (.object "PuddingstoneLine$GrainSet"))) (by decide) rfl ?_
  intro p e s m args below meth c s₁ B hml hv9
  obtain ⟨rfl, hK, hw⟩ := hv9
  have hx := B.exec
  have hb := B.bytes
  have hr := B.returns
  have hts := atoms_spec (ws := wsX3_memberOrNull) B.pre
  have hown : s.vm.findClass RX3 = some m.cls := findClass_of_methodNamed B.named
  have hlocks := B.notSynchronized
  have hl := lv_entry ([.ref (ad 0), .int (nI fam), .int (nI k)]) (n := 3) (Nat.le_of_ble_eq_true rfl)
  rw [lg_entry_eq]
  generalize (lg_sl ([.ref (ad 0), .int (nI fam), .int (nI k)]) ++ List.replicate (3 - (lg_sl ([.ref (ad 0), .int (nI fam), .int (nI k)])).length) Slot.unset).toArray = ls at hl ⊢
  have hl : lv_has ls 3 [(0, .ref (ad 0)), (1, .int (nI fam)), (2, .int (nI k))] := hl
  refine lv_iload_n hx hb dX3_memberOrNull_0 rfl (lv_at hl 1 rfl) ?_
  refine lv_iload_n hx hb dX3_memberOrNull_1 rfl (lv_at hl 2 rfl) ?_
  refine lv_ishr hx hb dX3_memberOrNull_2 ?_
  refine lv_iconst (v := nI 1) hx hb dX3_memberOrNull_3 (by decide) ?_
  refine lv_iand hx hb dX3_memberOrNull_4 ?_
  refine lv_iconst (v := nI 1) hx hb dX3_memberOrNull_5 (by decide) ?_
  refine lv_icmp_ne (tgt := 17) hx hb dX3_memberOrNull_6 (by decide) (fun c6 => ?_) (fun c6 => ?_)
  · skip
    have c6 : ¬ (fam / 2 ^ k % 2 = 1) := fun q9 => c6 ((mem_iff (by omega) (by omega)).mpr q9)
    refine lv_null hx hb dX3_memberOrNull_17 ?_
    exact W.aret (v := .null) hx hb hr (Or.inl ⟨_, rfl⟩) (Or.inl rfl) (fun t ht _ => ⟨none, rfl, by (rw [memN_f c6]), ht⟩) (fun q hq => absurd hq List.not_mem_nil) dX3_memberOrNull_18
  · skip
    have c6 : fam / 2 ^ k % 2 = 1 := (mem_iff (by omega) (by omega)).mp c6
    refine lv_aload_n hx hb dX3_memberOrNull_9 rfl (lv_at hl 0 rfl) ?_
    refine lv_iload_n hx hb dX3_memberOrNull_10 rfl (lv_at hl 2 rfl) ?_
    refine va_csr (ad := fun k => .ref k) (va_runV (As := [.int (nI k)]) (rest := []) ⟨hx, hb, hml, hown, hts⟩ (conX3_setOrNull l D T ad F V sr C k (by omega)) (cwV 1 hts gX3_memberOrNull_X3_setOrNull rfl rfl rfl (by decide +kernel) ⟨Nat.le_of_ble_eq_true rfl, Nat.le_of_ble_eq_true rfl⟩) (preV hK hw.o rfl hw) rfl rfl hl.1 rfl (lv_room (Nat.le_of_ble_eq_true rfl)) dX3_memberOrNull_11 ⟨Nat.le_of_ble_eq_true rfl, Nat.le_of_ble_eq_true rfl⟩).run (fun r1 hr1 => ?_)
    subst hr1
    refine lv_goto (tgt := 18) hx hb dX3_memberOrNull_14 (by decide) ?_
    exact W.aret (v := .ref (ad (4 + k))) hx hb hr (Or.inl ⟨_, rfl⟩) (Or.inr ⟨_, rfl⟩) (fun t ht _ => ⟨some (ad (4 + k)), rfl, by (rw [memN_t c6]), ht⟩) (fun q hq => absurd hq List.not_mem_nil) dX3_memberOrNull_18

set_option maxHeartbeats 4000000 in
set_option maxRecDepth 100000 in
theorem conX3_thickness (l : Launch) (D : va_G) (T : Nat → ClassId) (ad : Nat → Nat) (F V : Nat → Nat → Int32) (sr : SRs) (C : Nat → Int32) (fam : Nat) (g : Int32) (hf : fam ≤ 255) : Met l yX3_thickness wsX3_thickness ({ frames := 2, cells := 0, slots := 0, locals := 43 }) (cP D T [.ref (ad 0), .int (nI fam), .int g] (fun H => PLW D T ad F V sr C H)) (vp_Si (fun r => r = thkZ F fam g 8)) 0 0 (fun _ => False) := by
  refine Met.ofW (cc := cX3_thickness) (maxL := 6) (ret := (some .int)) (by decide) rfl ?_
  intro p e s m args below meth c s₁ B hml hv9
  obtain ⟨rfl, hK, hw⟩ := hv9
  have hx := B.exec
  have hb := B.bytes
  have hr := B.returns
  have hts := atoms_spec (ws := wsX3_thickness) B.pre
  have hown : s.vm.findClass RX3 = some m.cls := findClass_of_methodNamed B.named
  have hlocks := B.notSynchronized
  have hl := lv_entry ([.ref (ad 0), .int (nI fam), .int g]) (n := 6) (Nat.le_of_ble_eq_true rfl)
  rw [lg_entry_eq]
  generalize (lg_sl ([.ref (ad 0), .int (nI fam), .int g]) ++ List.replicate (6 - (lg_sl ([.ref (ad 0), .int (nI fam), .int g])).length) Slot.unset).toArray = ls at hl ⊢
  have hl : lv_has ls 6 [(0, .ref (ad 0)), (1, .int (nI fam)), (2, .int g)] := hl
  refine lv_iconst (v := nI 0) hx hb dX3_thickness_0 (by decide) ?_
  refine lv_istore_n (lv' := [(3, .int (nI 0)), (0, .ref (ad 0)), (1, .int (nI fam)), (2, .int g)]) hx hb dX3_thickness_1 rfl hl (by decide) rfl (fun ls hl => ?_)
  refine lv_iconst (v := nI 0) hx hb dX3_thickness_2 (by decide) ?_
  refine lv_istore (lv' := [(4, .int (nI 0)), (3, .int (nI 0)), (0, .ref (ad 0)), (1, .int (nI fam)), (2, .int g)]) hx hb dX3_thickness_3 hl (by decide) rfl (fun ls hl => ?_)
  refine q_for (fun (i : Nat) (H : Heap) (locs : List Loc) (ls : Array Slot) => H = s.heap ∧ locs = [] ∧ lv_has ls 6 [(4, .int (nI i)), (3, .int (thkZ F fam g i)), (0, .ref (ad 0)), (1, .int (nI fam)), (2, .int g)]) (N := 8) 0 (by omega) ?_ ?_ ?_
  · skip
    have e1 : nI 0 = thkZ F fam g 0 := by rfl
    exact ⟨rfl, rfl, lv_sub (lv_ex hl 1 rfl (congrArg Value.int e1)) [0, 1, 2, 3, 4] rfl⟩
  · skip
    intro i H locs ls hi9 hin9 hnext
    obtain ⟨rfl, rfl, hl⟩ := hin9
    refine lv_iload hx hb dX3_thickness_5 (lv_at hl 0 rfl) ?_
    refine lv_bipush (v := nI 8) hx hb dX3_thickness_7 (by decide) ?_
    refine lv_icmp_ge (tgt := 44) hx hb dX3_thickness_9 (by decide) (fun c9 => ?_) (fun c9 => ?_)
    · skip
      have c9 : 8 ≤ i := (nc_le (a := 8) (b := i) (by omega) (by omega)).mp c9
      omega
    · skip
      have c9 : ¬ (8 ≤ i) := fun q9 => c9 ((nc_le (a := 8) (b := i) (by omega) (by omega)).mpr q9)
      refine lv_aload_n hx hb dX3_thickness_12 rfl (lv_at hl 2 rfl) ?_
      refine lv_iload_n hx hb dX3_thickness_13 rfl (lv_at hl 3 rfl) ?_
      refine lv_iload hx hb dX3_thickness_14 (lv_at hl 0 rfl) ?_
      refine va_csq (va_runV (As := [.int (nI fam), .int (nI i)]) (rest := []) ⟨hx, hb, hml, hown, hts⟩ (conX3_memberOrNull l D T ad F V sr C fam i (by omega) (by omega)) (cwV 2 hts gX3_thickness_X3_memberOrNull rfl rfl rfl (by decide +kernel) ⟨Nat.le_of_ble_eq_true rfl, Nat.le_of_ble_eq_true rfl⟩) (preV hK hw.o rfl hw) rfl rfl hl.1 rfl (lv_room (Nat.le_of_ble_eq_true rfl)) dX3_thickness_16 ⟨Nat.le_of_ble_eq_true rfl, Nat.le_of_ble_eq_true rfl⟩).run (fun r2 hr2 => ?_)
      subst hr2
      by_cases hm16 : fam / 2 ^ i % 2 = 1
      · skip
        rw [memN_t hm16]
        refine W.eq (g2 := F0 m 19 ls [.ref (ad (4 + i))]) rfl ?_
        refine lv_astore (lv' := [(5, .ref (ad (4 + i))), (4, .int (nI i)), (3, .int (thkZ F fam g i)), (0, .ref (ad 0)), (1, .int (nI fam)), (2, .int g)]) hx hb dX3_thickness_19 hl (by decide) rfl (fun ls hl => ?_)
        refine lv_aload hx hb dX3_thickness_21 (lv_at hl 0 rfl) ?_
        refine lv_ifnull hx hb dX3_thickness_23 ?_
        refine lv_aload hx hb dX3_thickness_26 (lv_at hl 0 rfl) ?_
        refine lv_iload_n hx hb dX3_thickness_28 rfl (lv_at hl 5 rfl) ?_
        refine vp_callSi (va_runV (As := [.int g]) (rest := []) ⟨hx, hb, hml, hown, hts⟩ (conX0_holds l D T (ad (4 + i)) (ad (13 + i)) (F i) g) (cwV 1 hts gX3_thickness_X0_holds rfl rfl rfl (by decide +kernel) ⟨Nat.le_of_ble_eq_true rfl, Nat.le_of_ble_eq_true rfl⟩) (preV hK (hw.g i (by omega)) rfl ⟨(hw.gs i (by omega)).1, (hw.gs i (by omega)).2.1, (hw.gs i (by omega)).2.2⟩) rfl rfl hl.1 rfl (lv_room (Nat.le_of_ble_eq_true rfl)) dX3_thickness_29 ⟨Nat.le_of_ble_eq_true rfl, Nat.le_of_ble_eq_true rfl⟩).run (fun r3 hr3 => ?_)
        rw [hr3]
        refine lv_if_eq (tgt := 38) hx hb dX3_thickness_32 (by decide) (fun c32 => ?_) (fun c32 => ?_)
        · skip
          refine lv_iinc (v := nI (i + 1)) (lv' := [(4, .int (nI (i + 1))), (5, .ref (ad (4 + i))), (3, .int (thkZ F fam g i)), (0, .ref (ad 0)), (1, .int (nI fam)), (2, .int g)]) hx hb dX3_thickness_38 hl (k := 1) rfl (inc_1 _) (by decide) rfl (fun ls hl => ?_)
          refine lv_goto (tgt := 5) hx hb dX3_thickness_41 (by decide) ?_
          have e4 : thkZ F fam g i = thkZ F fam g (i + 1) := by first | (rw [thkZ_s, if_neg hm16]; done) | (rw [thkZ_s, if_pos hm16, if_pos c32]; done) | (rw [thkZ_s, if_pos hm16, if_neg c32]; done)
          exact hnext _ _ _ ⟨rfl, rfl, lv_sub (lv_ex hl 2 rfl (congrArg Value.int e4)) [0, 2, 3, 4, 5] rfl⟩
        · skip
          refine lv_iinc (v := (thkZ F fam g i) + 1) (lv' := [(3, .int ((thkZ F fam g i) + 1)), (5, .ref (ad (4 + i))), (4, .int (nI i)), (0, .ref (ad 0)), (1, .int (nI fam)), (2, .int g)]) hx hb dX3_thickness_35 hl (k := 2) rfl (rfl) (by decide) rfl (fun ls hl => ?_)
          refine lv_iinc (v := nI (i + 1)) (lv' := [(4, .int (nI (i + 1))), (3, .int ((thkZ F fam g i) + 1)), (5, .ref (ad (4 + i))), (0, .ref (ad 0)), (1, .int (nI fam)), (2, .int g)]) hx hb dX3_thickness_38 hl (k := 2) rfl (inc_1 _) (by decide) rfl (fun ls hl => ?_)
          refine lv_goto (tgt := 5) hx hb dX3_thickness_41 (by decide) ?_
          have e5 : (thkZ F fam g i) + 1 = thkZ F fam g (i + 1) := by first | (rw [thkZ_s, if_neg hm16]; done) | (rw [thkZ_s, if_pos hm16, if_pos c32]; done) | (rw [thkZ_s, if_pos hm16, if_neg c32]; done)
          exact hnext _ _ _ ⟨rfl, rfl, lv_sub (lv_ex hl 1 rfl (congrArg Value.int e5)) [0, 1, 3, 4, 5] rfl⟩
      · skip
        rw [memN_f hm16]
        refine W.eq (g2 := F0 m 19 ls [.null]) rfl ?_
        refine lv_astoreN (lv' := [(5, .null), (4, .int (nI i)), (3, .int (thkZ F fam g i)), (0, .ref (ad 0)), (1, .int (nI fam)), (2, .int g)]) hx hb dX3_thickness_19 hl (by decide) rfl (fun ls hl => ?_)
        refine lv_aloadN hx hb dX3_thickness_21 (lv_at hl 0 rfl) ?_
        refine lv_ifnullN (tgt := 38) hx hb dX3_thickness_23 (by decide) ?_
        refine lv_iinc (v := nI (i + 1)) (lv' := [(4, .int (nI (i + 1))), (5, .null), (3, .int (thkZ F fam g i)), (0, .ref (ad 0)), (1, .int (nI fam)), (2, .int g)]) hx hb dX3_thickness_38 hl (k := 1) rfl (inc_1 _) (by decide) rfl (fun ls hl => ?_)
        refine lv_goto (tgt := 5) hx hb dX3_thickness_41 (by decide) ?_
        have e6 : thkZ F fam g i = thkZ F fam g (i + 1) := by first | (rw [thkZ_s, if_neg hm16]; done) | (rw [thkZ_s, if_pos hm16, if_pos c32]; done) | (rw [thkZ_s, if_pos hm16, if_neg c32]; done)
        exact hnext _ _ _ ⟨rfl, rfl, lv_sub (lv_ex hl 2 rfl (congrArg Value.int e6)) [0, 2, 3, 4, 5] rfl⟩
  · skip
    intro H locs ls hin9
    obtain ⟨rfl, rfl, hl⟩ := hin9
    refine lv_iload hx hb dX3_thickness_5 (lv_at hl 0 rfl) ?_
    refine lv_bipush (v := nI 8) hx hb dX3_thickness_7 (by decide) ?_
    refine lv_icmp_ge (tgt := 44) hx hb dX3_thickness_9 (by decide) (fun c9 => ?_) (fun c9 => ?_)
    · skip
      have c9 : 8 ≤ 8 := (nc_le (a := 8) (b := 8) (by omega) (by omega)).mp c9
      refine lv_iload_n hx hb dX3_thickness_44 rfl (lv_at hl 1 rfl) ?_
      exact W.iret (v := thkZ F fam g 8) hx hb hr (fun t ht _ => ⟨thkZ F fam g 8, rfl, by rfl, ht⟩) (fun q hq => absurd hq List.not_mem_nil) dX3_thickness_45
    · skip
      have c9 : ¬ (8 ≤ 8) := fun q9 => c9 ((nc_le (a := 8) (b := 8) (by omega) (by omega)).mpr q9)
      omega

set_option maxHeartbeats 4000000 in
set_option maxRecDepth 100000 in
theorem conX3_thick (l : Launch) (D : va_G) (T : Nat → ClassId) (ad : Nat → Nat) (F V : Nat → Nat → Int32) (sr : SRs) (C : Nat → Int32) (k : Nat) (hk : k < 5) (fam : Nat) (hf : fam ≤ 255) : Met l yX3_thick wsX3_thick ({ frames := 3, cells := 0, slots := 0, locals := 68 }) (cP D T [.ref (ad 0), .int (nI k), .int (nI fam)] (fun H => PLW D T ad F V sr C H)) (va_Qi (fun (r : Int32) (_ : Unit) => r = stepsV (tkV F fam (V k) 201) 200) (fun _ t => PLW D T ad F (va_up V k (tkV F fam (V k) 201)) sr C t.heap) (PLA ad)) 0 0 (PLA ad) := by
  refine Met.ofW (cc := cX3_thick) (maxL := 5) (ret := (some .int)) (by decide) rfl ?_
  intro p e s m args below meth c s₁ B hml hv9
  obtain ⟨rfl, hK, hw⟩ := hv9
  have hx := B.exec
  have hb := B.bytes
  have hr := B.returns
  have hts := atoms_spec (ws := wsX3_thick) B.pre
  have hown : s.vm.findClass RX3 = some m.cls := findClass_of_methodNamed B.named
  have hlocks := B.notSynchronized
  generalize hAe : (PLA ad) = A
  have hA : ∀ i : Nat, i < 37 → A (ad i) := fun i hi => by subst hAe; exact ⟨i, hi, rfl⟩
  have hS : va_S A s.heap s.heap [] := va_S.rf
  have hl := lv_entry ([.ref (ad 0), .int (nI k), .int (nI fam)]) (n := 5) (Nat.le_of_ble_eq_true rfl)
  rw [lg_entry_eq]
  generalize (lg_sl ([.ref (ad 0), .int (nI k), .int (nI fam)]) ++ List.replicate (5 - (lg_sl ([.ref (ad 0), .int (nI k), .int (nI fam)])).length) Slot.unset).toArray = ls at hl ⊢
  have hl : lv_has ls 5 [(0, .ref (ad 0)), (1, .int (nI k)), (2, .int (nI fam))] := hl
  refine lv_aload_n hx hb dX3_thick_0 rfl (lv_at hl 0 rfl) ?_
  refine lv_iload_n hx hb dX3_thick_1 rfl (lv_at hl 1 rfl) ?_
  refine va_csr (ad := fun k => .ref k) (va_runV (As := [.int (nI k)]) (rest := []) ⟨hx, hb, hml, hown, hts⟩ (conX3_functionAt l D T ad F V sr C k (by omega)) (cwV 1 hts gX3_thick_X3_functionAt rfl rfl rfl (by decide +kernel) ⟨Nat.le_of_ble_eq_true rfl, Nat.le_of_ble_eq_true rfl⟩) (preV hK hw.o rfl hw) rfl rfl hl.1 rfl (lv_room (Nat.le_of_ble_eq_true rfl)) dX3_thick_2 ⟨Nat.le_of_ble_eq_true rfl, Nat.le_of_ble_eq_true rfl⟩).run (fun r1 hr1 => ?_)
  subst hr1
  refine lv_astore_n (lv' := [(3, .ref (ad (22 + k))), (0, .ref (ad 0)), (1, .int (nI k)), (2, .int (nI fam))]) hx hb dX3_thick_5 rfl hl (by decide) rfl (fun ls hl => ?_)
  refine lv_iload_n hx hb dX3_thick_6 rfl (lv_at hl 3 rfl) ?_
  refine va_csv (va_runS (As := [.int (nI fam)]) (rest := []) ⟨hx, hb, hml, hown, hts⟩ (conX3_checkFamily l D T fam (by omega)) (va_cwS 1 hts gX3_thick_X3_checkFamily rfl rfl rfl (by decide +kernel) ⟨Nat.le_of_ble_eq_true rfl, Nat.le_of_ble_eq_true rfl⟩) (preS hK trivial) rfl rfl hl.1 rfl (lv_room (Nat.le_of_ble_eq_true rfl)) dX3_thick_7 ⟨Nat.le_of_ble_eq_true rfl, Nat.le_of_ble_eq_true rfl⟩).run (fun _ => ?_)
  refine lv_iconst (v := nI 0) hx hb dX3_thick_10 (by decide) ?_
  refine lv_istore (lv' := [(4, .int (nI 0)), (3, .ref (ad (22 + k))), (0, .ref (ad 0)), (1, .int (nI k)), (2, .int (nI fam))]) hx hb dX3_thick_11 hl (by decide) rfl (fun ls hl => ?_)
  refine q_for (fun (i : Nat) (H : Heap) (locs : List Loc) (ls : Array Slot) => va_S A s.heap H locs ∧ lv_has ls 5 [(4, .int (nI i)), (3, .ref (ad (22 + k))), (0, .ref (ad 0)), (1, .int (nI k)), (2, .int (nI fam))] ∧ PLW D T ad F (va_up V k (tkV F fam (V k) i)) sr C H) (N := 201) 0 (by omega) ?_ ?_ ?_
  · skip
    have e2 : V = va_up V k (tkV F fam (V k) 0) := by (rw [tkV_0, va_up_id])
    exact ⟨hS, lv_sub hl [0, 1, 2, 3, 4] rfl, ((e2 ▸ hw) : PLW D T ad F (va_up V k (tkV F fam (V k) 0)) sr C _)⟩
  · skip
    intro i H locs ls hi9 hin9 hnext
    obtain ⟨hS, hl, hw⟩ := hin9
    refine lv_iload hx hb dX3_thick_13 (lv_at hl 0 rfl) ?_
    refine lv_sipush (v := nI 201) hx hb dX3_thick_15 (by decide) ?_
    refine lv_icmp_ge (tgt := 40) hx hb dX3_thick_18 (by decide) (fun c18 => ?_) (fun c18 => ?_)
    · skip
      have c18 : 201 ≤ i := (nc_le (a := 201) (b := i) (by omega) (by omega)).mp c18
      omega
    · skip
      have c18 : ¬ (201 ≤ i) := fun q9 => c18 ((nc_le (a := 201) (b := i) (by omega) (by omega)).mpr q9)
      refine lv_aload_n hx hb dX3_thick_21 rfl (lv_at hl 1 rfl) ?_
      refine lv_iload hx hb dX3_thick_22 (lv_at hl 0 rfl) ?_
      refine lv_aload_n hx hb dX3_thick_24 rfl (lv_at hl 2 rfl) ?_
      refine lv_iload_n hx hb dX3_thick_25 rfl (lv_at hl 4 rfl) ?_
      refine lv_iload hx hb dX3_thick_26 (lv_at hl 0 rfl) ?_
      refine vp_callSi (va_runV (As := [.int (nI fam), .int (nI i)]) (rest := [.int (nI i), .ref (ad (22 + k))]) ⟨hx, hb, hml, hown, hts⟩ (conX3_thickness l D T ad F (va_up V k (tkV F fam (V k) i)) sr C fam (nI i) (by omega)) (cwV 2 hts gX3_thick_X3_thickness rfl rfl rfl (by decide +kernel) ⟨Nat.le_of_ble_eq_true rfl, Nat.le_of_ble_eq_true rfl⟩) (preV hK hw.o rfl hw) rfl rfl hl.1 rfl (lv_room (Nat.le_of_ble_eq_true rfl)) dX3_thick_28 ⟨Nat.le_of_ble_eq_true rfl, Nat.le_of_ble_eq_true rfl⟩).run (fun r3 hr3 => ?_)
      rw [hr3]
      refine va_callv (va_runV (As := [.int (nI i), .int (thkZ F fam (nI i) 8)]) (rest := []) ⟨hx, hb, hml, hown, hts⟩ (conX2_write l D T (ad (22 + k)) (ad (28 + k)) (tkV F fam (V k) i) (nI i) (thkZ F fam (nI i) 8)) (cwV 2 hts gX3_thick_X2_write rfl rfl rfl (by decide +kernel) ⟨Nat.le_of_ble_eq_true rfl, Nat.le_of_ble_eq_true rfl⟩) (preV hK (hw.f k (by omega)) rfl ⟨(hw.sfU k (by omega)).1, (hw.sfU k (by omega)).2.1, (hw.sfU k (by omega)).2.2⟩) rfl rfl hl.1 rfl (lv_room (Nat.le_of_ble_eq_true rfl)) dX3_thick_31 ⟨Nat.le_of_ble_eq_true rfl, Nat.le_of_ble_eq_true rfl⟩) hS (fun q _ h9 => (by have h8 : q = ad (28 + k) := h9; rw [h8]; exact hA (28 + k) (by omega))) (fun q h9 => (by have h8 : q = ad (28 + k) := h9; rw [h8]; exact hA (28 + k) (by omega))) (fun u t H1 locs1 ht hvm hw9 hB hz1 hk1 hS => ?_)
      try dsimp only at hB
      rw [ht] at hB
      replace hw := hw.setVU k (by omega) hB (fun q h1 h2 => hk1 q h1 h2)
      refine lv_iinc (v := nI (i + 1)) (lv' := [(4, .int (nI (i + 1))), (3, .ref (ad (22 + k))), (0, .ref (ad 0)), (1, .int (nI k)), (2, .int (nI fam))]) hx hb dX3_thick_34 hl (k := 0) rfl (inc_1 _) (by decide) rfl (fun ls hl => ?_)
      refine lv_goto (tgt := 13) hx hb dX3_thick_37 (by decide) ?_
      have e4 : va_up V k (wrV (tkV F fam (V k) i) (nI i) (thkZ F fam (nI i) 8)) = va_up V k (tkV F fam (V k) (i + 1)) := by (rw [tkV_s])
      exact hnext _ _ _ ⟨hS, lv_sub hl [0, 1, 2, 3, 4] rfl, ((e4 ▸ hw) : PLW D T ad F (va_up V k (tkV F fam (V k) (i + 1))) sr C _)⟩
  · skip
    intro H locs ls hin9
    obtain ⟨hS, hl, hw⟩ := hin9
    refine lv_iload hx hb dX3_thick_13 (lv_at hl 0 rfl) ?_
    refine lv_sipush (v := nI 201) hx hb dX3_thick_15 (by decide) ?_
    refine lv_icmp_ge (tgt := 40) hx hb dX3_thick_18 (by decide) (fun c18 => ?_) (fun c18 => ?_)
    · skip
      have c18 : 201 ≤ 201 := (nc_le (a := 201) (b := 201) (by omega) (by omega)).mp c18
      refine lv_aload_n hx hb dX3_thick_40 rfl (lv_at hl 1 rfl) ?_
      refine vp_callSi (va_runV (As := []) (rest := []) ⟨hx, hb, hml, hown, hts⟩ (conX2_steps l D T (ad (22 + k)) (ad (28 + k)) (tkV F fam (V k) 201)) (cwV 0 hts gX3_thick_X2_steps rfl rfl rfl (by decide +kernel) ⟨Nat.le_of_ble_eq_true rfl, Nat.le_of_ble_eq_true rfl⟩) (preV hK (hw.f k (by omega)) rfl ⟨(hw.sfU k (by omega)).1, (hw.sfU k (by omega)).2.1, (hw.sfU k (by omega)).2.2⟩) rfl rfl hl.1 rfl (lv_room (Nat.le_of_ble_eq_true rfl)) dX3_thick_41 ⟨Nat.le_of_ble_eq_true rfl, Nat.le_of_ble_eq_true rfl⟩).run (fun r5 hr5 => ?_)
      rw [hr5]
      exact W.iret (v := stepsV (tkV F fam (V k) 201) 200) hx hb hr (fun t ht _ => ⟨⟨stepsV (tkV F fam (V k) 201) 200, (), rfl, by rfl, by dsimp only; rw [ht]; exact hw⟩, hS.F ht⟩) hS.2.2 dX3_thick_44
    · skip
      have c18 : ¬ (201 ≤ 201) := fun q9 => c18 ((nc_le (a := 201) (b := 201) (by omega) (by omega)).mpr q9)
      omega

set_option maxHeartbeats 4000000 in
set_option maxRecDepth 100000 in
theorem conX3_countThicker (l : Launch) (D : va_G) (T : Nat → ClassId) (ad : Nat → Nat) (F V : Nat → Nat → Int32) (sr : SRs) (C : Nat → Int32) (fam : Nat) (mm : Int32) (hf : fam ≤ 255) : Met l yX3_countThicker wsX3_countThicker ({ frames := 3, cells := 0, slots := 0, locals := 68 }) (cP D T [.ref (ad 0), .int (nI fam), .int mm] (fun H => PLW D T ad F V sr C H)) (vp_Si (fun r => r = cthZ F fam mm 201)) 0 0 (fun _ => False) := by
  refine Met.ofW (cc := cX3_countThicker) (maxL := 5) (ret := (some .int)) (by decide) rfl ?_
  intro p e s m args below meth c s₁ B hml hv9
  obtain ⟨rfl, hK, hw⟩ := hv9
  have hx := B.exec
  have hb := B.bytes
  have hr := B.returns
  have hts := atoms_spec (ws := wsX3_countThicker) B.pre
  have hown : s.vm.findClass RX3 = some m.cls := findClass_of_methodNamed B.named
  have hlocks := B.notSynchronized
  have hl := lv_entry ([.ref (ad 0), .int (nI fam), .int mm]) (n := 5) (Nat.le_of_ble_eq_true rfl)
  rw [lg_entry_eq]
  generalize (lg_sl ([.ref (ad 0), .int (nI fam), .int mm]) ++ List.replicate (5 - (lg_sl ([.ref (ad 0), .int (nI fam), .int mm])).length) Slot.unset).toArray = ls at hl ⊢
  have hl : lv_has ls 5 [(0, .ref (ad 0)), (1, .int (nI fam)), (2, .int mm)] := hl
  refine lv_iconst (v := nI 0) hx hb dX3_countThicker_0 (by decide) ?_
  refine lv_istore_n (lv' := [(3, .int (nI 0)), (0, .ref (ad 0)), (1, .int (nI fam)), (2, .int mm)]) hx hb dX3_countThicker_1 rfl hl (by decide) rfl (fun ls hl => ?_)
  refine lv_iconst (v := nI 0) hx hb dX3_countThicker_2 (by decide) ?_
  refine lv_istore (lv' := [(4, .int (nI 0)), (3, .int (nI 0)), (0, .ref (ad 0)), (1, .int (nI fam)), (2, .int mm)]) hx hb dX3_countThicker_3 hl (by decide) rfl (fun ls hl => ?_)
  refine q_for (fun (i : Nat) (H : Heap) (locs : List Loc) (ls : Array Slot) => H = s.heap ∧ locs = [] ∧ lv_has ls 5 [(4, .int (nI i)), (3, .int (cthZ F fam mm i)), (0, .ref (ad 0)), (1, .int (nI fam)), (2, .int mm)]) (N := 201) 0 (by omega) ?_ ?_ ?_
  · skip
    have e1 : nI 0 = cthZ F fam mm 0 := by rfl
    exact ⟨rfl, rfl, lv_sub (lv_ex hl 1 rfl (congrArg Value.int e1)) [0, 1, 2, 3, 4] rfl⟩
  · skip
    intro i H locs ls hi9 hin9 hnext
    obtain ⟨rfl, rfl, hl⟩ := hin9
    refine lv_iload hx hb dX3_countThicker_5 (lv_at hl 0 rfl) ?_
    refine lv_sipush (v := nI 201) hx hb dX3_countThicker_7 (by decide) ?_
    refine lv_icmp_ge (tgt := 33) hx hb dX3_countThicker_10 (by decide) (fun c10 => ?_) (fun c10 => ?_)
    · skip
      have c10 : 201 ≤ i := (nc_le (a := 201) (b := i) (by omega) (by omega)).mp c10
      omega
    · skip
      have c10 : ¬ (201 ≤ i) := fun q9 => c10 ((nc_le (a := 201) (b := i) (by omega) (by omega)).mpr q9)
      refine lv_aload_n hx hb dX3_countThicker_13 rfl (lv_at hl 2 rfl) ?_
      refine lv_iload_n hx hb dX3_countThicker_14 rfl (lv_at hl 3 rfl) ?_
      refine lv_iload hx hb dX3_countThicker_15 (lv_at hl 0 rfl) ?_
      refine vp_callSi (va_runV (As := [.int (nI fam), .int (nI i)]) (rest := []) ⟨hx, hb, hml, hown, hts⟩ (conX3_thickness l D T ad F V sr C fam (nI i) (by omega)) (cwV 2 hts gX3_countThicker_X3_thickness rfl rfl rfl (by decide +kernel) ⟨Nat.le_of_ble_eq_true rfl, Nat.le_of_ble_eq_true rfl⟩) (preV hK hw.o rfl hw) rfl rfl hl.1 rfl (lv_room (Nat.le_of_ble_eq_true rfl)) dX3_countThicker_17 ⟨Nat.le_of_ble_eq_true rfl, Nat.le_of_ble_eq_true rfl⟩).run (fun r2 hr2 => ?_)
      rw [hr2]
      refine lv_iload_n hx hb dX3_countThicker_20 rfl (lv_at hl 4 rfl) ?_
      refine lv_icmp_lt (tgt := 27) hx hb dX3_countThicker_21 (by decide) (fun c21 => ?_) (fun c21 => ?_)
      · skip
        refine lv_iinc (v := nI (i + 1)) (lv' := [(4, .int (nI (i + 1))), (3, .int (cthZ F fam mm i)), (0, .ref (ad 0)), (1, .int (nI fam)), (2, .int mm)]) hx hb dX3_countThicker_27 hl (k := 0) rfl (inc_1 _) (by decide) rfl (fun ls hl => ?_)
        refine lv_goto (tgt := 5) hx hb dX3_countThicker_30 (by decide) ?_
        have e3 : cthZ F fam mm i = cthZ F fam mm (i + 1) := by first | (rw [cthZ_s, if_pos c21]; done) | (rw [cthZ_s, if_neg c21]; done)
        exact hnext _ _ _ ⟨rfl, rfl, lv_sub (lv_ex hl 1 rfl (congrArg Value.int e3)) [0, 1, 2, 3, 4] rfl⟩
      · skip
        refine lv_iinc (v := (cthZ F fam mm i) + 1) (lv' := [(3, .int ((cthZ F fam mm i) + 1)), (4, .int (nI i)), (0, .ref (ad 0)), (1, .int (nI fam)), (2, .int mm)]) hx hb dX3_countThicker_24 hl (k := 1) rfl (rfl) (by decide) rfl (fun ls hl => ?_)
        refine lv_iinc (v := nI (i + 1)) (lv' := [(4, .int (nI (i + 1))), (3, .int ((cthZ F fam mm i) + 1)), (0, .ref (ad 0)), (1, .int (nI fam)), (2, .int mm)]) hx hb dX3_countThicker_27 hl (k := 1) rfl (inc_1 _) (by decide) rfl (fun ls hl => ?_)
        refine lv_goto (tgt := 5) hx hb dX3_countThicker_30 (by decide) ?_
        have e4 : (cthZ F fam mm i) + 1 = cthZ F fam mm (i + 1) := by first | (rw [cthZ_s, if_pos c21]; done) | (rw [cthZ_s, if_neg c21]; done)
        exact hnext _ _ _ ⟨rfl, rfl, lv_sub (lv_ex hl 1 rfl (congrArg Value.int e4)) [0, 1, 2, 3, 4] rfl⟩
  · skip
    intro H locs ls hin9
    obtain ⟨rfl, rfl, hl⟩ := hin9
    refine lv_iload hx hb dX3_countThicker_5 (lv_at hl 0 rfl) ?_
    refine lv_sipush (v := nI 201) hx hb dX3_countThicker_7 (by decide) ?_
    refine lv_icmp_ge (tgt := 33) hx hb dX3_countThicker_10 (by decide) (fun c10 => ?_) (fun c10 => ?_)
    · skip
      have c10 : 201 ≤ 201 := (nc_le (a := 201) (b := 201) (by omega) (by omega)).mp c10
      refine lv_iload_n hx hb dX3_countThicker_33 rfl (lv_at hl 1 rfl) ?_
      exact W.iret (v := cthZ F fam mm 201) hx hb hr (fun t ht _ => ⟨cthZ F fam mm 201, rfl, by rfl, ht⟩) (fun q hq => absurd hq List.not_mem_nil) dX3_countThicker_34
    · skip
      have c10 : ¬ (201 ≤ 201) := fun q9 => c10 ((nc_le (a := 201) (b := 201) (by omega) (by omega)).mpr q9)
      omega

set_option maxHeartbeats 4000000 in
set_option maxRecDepth 100000 in
theorem conX3_thicker (l : Launch) (D : va_G) (T : Nat → ClassId) (ad : Nat → Nat) (F V : Nat → Nat → Int32) (sr : SRs) (C : Nat → Int32) (fam : Nat) (mm : Int32) (hf : fam ≤ 255) : Met l yX3_thicker wsX3_thicker ({ frames := 4, cells := 0, slots := 0, locals := 92 }) (cP D T [.ref (ad 0), .int (nI fam), .int mm] (fun H => PLW D T ad F V sr C H)) (vp_Si (fun r => r = cthZ F fam mm 201)) 0 0 (fun _ => False) := by
  refine Met.ofW (cc := cX3_thicker) (maxL := 3) (ret := (some .int)) (by decide) rfl ?_
  intro p e s m args below meth c s₁ B hml hv9
  obtain ⟨rfl, hK, hw⟩ := hv9
  have hx := B.exec
  have hb := B.bytes
  have hr := B.returns
  have hts := atoms_spec (ws := wsX3_thicker) B.pre
  have hown : s.vm.findClass RX3 = some m.cls := findClass_of_methodNamed B.named
  have hlocks := B.notSynchronized
  have hl := lv_entry ([.ref (ad 0), .int (nI fam), .int mm]) (n := 3) (Nat.le_of_ble_eq_true rfl)
  rw [lg_entry_eq]
  generalize (lg_sl ([.ref (ad 0), .int (nI fam), .int mm]) ++ List.replicate (3 - (lg_sl ([.ref (ad 0), .int (nI fam), .int mm])).length) Slot.unset).toArray = ls at hl ⊢
  have hl : lv_has ls 3 [(0, .ref (ad 0)), (1, .int (nI fam)), (2, .int mm)] := hl
  refine lv_iload_n hx hb dX3_thicker_0 rfl (lv_at hl 1 rfl) ?_
  refine va_csv (va_runS (As := [.int (nI fam)]) (rest := []) ⟨hx, hb, hml, hown, hts⟩ (conX3_checkFamily l D T fam (by omega)) (va_cwS 1 hts gX3_thicker_X3_checkFamily rfl rfl rfl (by decide +kernel) ⟨Nat.le_of_ble_eq_true rfl, Nat.le_of_ble_eq_true rfl⟩) (preS hK trivial) rfl rfl hl.1 rfl (lv_room (Nat.le_of_ble_eq_true rfl)) dX3_thicker_1 ⟨Nat.le_of_ble_eq_true rfl, Nat.le_of_ble_eq_true rfl⟩).run (fun _ => ?_)
  refine lv_aload_n hx hb dX3_thicker_4 rfl (lv_at hl 0 rfl) ?_
  refine lv_iload_n hx hb dX3_thicker_5 rfl (lv_at hl 1 rfl) ?_
  refine lv_iload_n hx hb dX3_thicker_6 rfl (lv_at hl 2 rfl) ?_
  refine vp_callSi (va_runV (As := [.int (nI fam), .int mm]) (rest := []) ⟨hx, hb, hml, hown, hts⟩ (conX3_countThicker l D T ad F V sr C fam mm (by omega)) (cwV 2 hts gX3_thicker_X3_countThicker rfl rfl rfl (by decide +kernel) ⟨Nat.le_of_ble_eq_true rfl, Nat.le_of_ble_eq_true rfl⟩) (preV hK hw.o rfl hw) rfl rfl hl.1 rfl (lv_room (Nat.le_of_ble_eq_true rfl)) dX3_thicker_7 ⟨Nat.le_of_ble_eq_true rfl, Nat.le_of_ble_eq_true rfl⟩).run (fun r1 hr1 => ?_)
  rw [hr1]
  exact W.iret (v := cthZ F fam mm 201) hx hb hr (fun t ht _ => ⟨cthZ F fam mm 201, rfl, by rfl, ht⟩) (fun q hq => absurd hq List.not_mem_nil) dX3_thicker_10

set_option maxHeartbeats 4000000 in
set_option maxRecDepth 100000 in
theorem conX3_farthestFrom (l : Launch) (D : va_G) (T : Nat → ClassId) (ad : Nat → Nat) (F V : Nat → Nat → Int32) (sr : SRs) (C : Nat → Int32) (fam g : Nat) (hf : fam ≤ 255) (hg : g < 201) : Met l yX3_farthestFrom wsX3_farthestFrom ({ frames := 2, cells := 0, slots := 0, locals := 43 }) (cP D T [.ref (ad 0), .int (nI fam), .int (nI g)] (fun H => PLW D T ad F V sr C H)) (vp_Si (fun r => r = (farS F fam g 8).1)) 0 0 (fun _ => False) := by
  refine Met.ofW (cc := cX3_farthestFrom) (maxL := 7) (ret := (some .int)) (by decide) rfl ?_
  intro p e s m args below meth c s₁ B hml hv9
  obtain ⟨rfl, hK, hw⟩ := hv9
  have hx := B.exec
  have hb := B.bytes
  have hr := B.returns
  have hts := atoms_spec (ws := wsX3_farthestFrom) B.pre
  have hown : s.vm.findClass RX3 = some m.cls := findClass_of_methodNamed B.named
  have hlocks := B.notSynchronized
  have hl := lv_entry ([.ref (ad 0), .int (nI fam), .int (nI g)]) (n := 7) (Nat.le_of_ble_eq_true rfl)
  rw [lg_entry_eq]
  generalize (lg_sl ([.ref (ad 0), .int (nI fam), .int (nI g)]) ++ List.replicate (7 - (lg_sl ([.ref (ad 0), .int (nI fam), .int (nI g)])).length) Slot.unset).toArray = ls at hl ⊢
  have hl : lv_has ls 7 [(0, .ref (ad 0)), (1, .int (nI fam)), (2, .int (nI g))] := hl
  refine lv_iconst (v := (-1)) hx hb dX3_farthestFrom_0 (by decide) ?_
  refine lv_istore_n (lv' := [(3, .int (-1)), (0, .ref (ad 0)), (1, .int (nI fam)), (2, .int (nI g))]) hx hb dX3_farthestFrom_1 rfl hl (by decide) rfl (fun ls hl => ?_)
  refine lv_iconst (v := (-1)) hx hb dX3_farthestFrom_2 (by decide) ?_
  refine lv_istore (lv' := [(4, .int (-1)), (3, .int (-1)), (0, .ref (ad 0)), (1, .int (nI fam)), (2, .int (nI g))]) hx hb dX3_farthestFrom_3 hl (by decide) rfl (fun ls hl => ?_)
  refine lv_iconst (v := nI 0) hx hb dX3_farthestFrom_5 (by decide) ?_
  refine lv_istore (lv' := [(5, .int (nI 0)), (4, .int (-1)), (3, .int (-1)), (0, .ref (ad 0)), (1, .int (nI fam)), (2, .int (nI g))]) hx hb dX3_farthestFrom_6 hl (by decide) rfl (fun ls hl => ?_)
  refine q_for (fun (i : Nat) (H : Heap) (locs : List Loc) (ls : Array Slot) => H = s.heap ∧ locs = [] ∧ lv_has ls 7 [(5, .int (nI i)), (4, .int ((farS F fam g i).2)), (3, .int ((farS F fam g i).1)), (0, .ref (ad 0)), (1, .int (nI fam)), (2, .int (nI g))]) (N := 8) 0 (by omega) ?_ ?_ ?_
  · skip
    have e1 : (-1) = (farS F fam g 0).2 := by rfl
    have e2 : (-1) = (farS F fam g 0).1 := by rfl
    exact ⟨rfl, rfl, lv_sub (lv_ex (lv_ex hl 1 rfl (congrArg Value.int e1)) 2 rfl (congrArg Value.int e2)) [0, 1, 2, 3, 4, 5] rfl⟩
  · skip
    intro i H locs ls hi9 hin9 hnext
    obtain ⟨rfl, rfl, hl⟩ := hin9
    refine lv_iload hx hb dX3_farthestFrom_8 (lv_at hl 0 rfl) ?_
    refine lv_bipush (v := nI 8) hx hb dX3_farthestFrom_10 (by decide) ?_
    refine lv_icmp_ge (tgt := 66) hx hb dX3_farthestFrom_12 (by decide) (fun c12 => ?_) (fun c12 => ?_)
    · skip
      have c12 : 8 ≤ i := (nc_le (a := 8) (b := i) (by omega) (by omega)).mp c12
      omega
    · skip
      have c12 : ¬ (8 ≤ i) := fun q9 => c12 ((nc_le (a := 8) (b := i) (by omega) (by omega)).mpr q9)
      refine lv_aload_n hx hb dX3_farthestFrom_15 rfl (lv_at hl 3 rfl) ?_
      refine lv_iload_n hx hb dX3_farthestFrom_16 rfl (lv_at hl 4 rfl) ?_
      refine lv_iload hx hb dX3_farthestFrom_17 (lv_at hl 0 rfl) ?_
      refine va_csq (va_runV (As := [.int (nI fam), .int (nI i)]) (rest := []) ⟨hx, hb, hml, hown, hts⟩ (conX3_memberOrNull l D T ad F V sr C fam i (by omega) (by omega)) (cwV 2 hts gX3_farthestFrom_X3_memberOrNull rfl rfl rfl (by decide +kernel) ⟨Nat.le_of_ble_eq_true rfl, Nat.le_of_ble_eq_true rfl⟩) (preV hK hw.o rfl hw) rfl rfl hl.1 rfl (lv_room (Nat.le_of_ble_eq_true rfl)) dX3_farthestFrom_19 ⟨Nat.le_of_ble_eq_true rfl, Nat.le_of_ble_eq_true rfl⟩).run (fun r3 hr3 => ?_)
      subst hr3
      by_cases hm19 : fam / 2 ^ i % 2 = 1
      · skip
        rw [memN_t hm19]
        refine W.eq (g2 := F0 m 22 ls [.ref (ad (4 + i))]) rfl ?_
        refine lv_astore (lv' := [(6, .ref (ad (4 + i))), (5, .int (nI i)), (4, .int ((farS F fam g i).2)), (3, .int ((farS F fam g i).1)), (0, .ref (ad 0)), (1, .int (nI fam)), (2, .int (nI g))]) hx hb dX3_farthestFrom_22 hl (by decide) rfl (fun ls hl => ?_)
        refine lv_aload hx hb dX3_farthestFrom_24 (lv_at hl 0 rfl) ?_
        refine lv_ifnull hx hb dX3_farthestFrom_26 ?_
        refine lv_aload hx hb dX3_farthestFrom_29 (lv_at hl 0 rfl) ?_
        refine lv_iload_n hx hb dX3_farthestFrom_31 rfl (lv_at hl 6 rfl) ?_
        refine vp_callSi (va_runV (As := [.int (nI g)]) (rest := []) ⟨hx, hb, hml, hown, hts⟩ (conX0_holds l D T (ad (4 + i)) (ad (13 + i)) (F i) (nI g)) (cwV 1 hts gX3_farthestFrom_X0_holds rfl rfl rfl (by decide +kernel) ⟨Nat.le_of_ble_eq_true rfl, Nat.le_of_ble_eq_true rfl⟩) (preV hK (hw.g i (by omega)) rfl ⟨(hw.gs i (by omega)).1, (hw.gs i (by omega)).2.1, (hw.gs i (by omega)).2.2⟩) rfl rfl hl.1 rfl (lv_room (Nat.le_of_ble_eq_true rfl)) dX3_farthestFrom_32 ⟨Nat.le_of_ble_eq_true rfl, Nat.le_of_ble_eq_true rfl⟩).run (fun r4 hr4 => ?_)
        rw [hr4]
        refine lv_if_eq (tgt := 60) hx hb dX3_farthestFrom_35 (by decide) (fun c35 => ?_) (fun c35 => ?_)
        · skip
          refine lv_iinc (v := nI (i + 1)) (lv' := [(5, .int (nI (i + 1))), (6, .ref (ad (4 + i))), (4, .int ((farS F fam g i).2)), (3, .int ((farS F fam g i).1)), (0, .ref (ad 0)), (1, .int (nI fam)), (2, .int (nI g))]) hx hb dX3_farthestFrom_60 hl (k := 1) rfl (inc_1 _) (by decide) rfl (fun ls hl => ?_)
          refine lv_goto (tgt := 8) hx hb dX3_farthestFrom_63 (by decide) ?_
          have e5 : (farS F fam g i).2 = (farS F fam g (i + 1)).2 := by first | (rw [farS_s, if_neg hm19]; done) | (rw [farS_s, if_pos hm19, if_pos c35]; done) | (rw [farS_s, if_pos hm19, if_neg c35, if_pos c46]; done) | (rw [farS_s, if_pos hm19, if_neg c35, if_neg c46]; done)
          have e6 : (farS F fam g i).1 = (farS F fam g (i + 1)).1 := by first | (rw [farS_s, if_neg hm19]; done) | (rw [farS_s, if_pos hm19, if_pos c35]; done) | (rw [farS_s, if_pos hm19, if_neg c35, if_pos c46]; done) | (rw [farS_s, if_pos hm19, if_neg c35, if_neg c46]; done)
          exact hnext _ _ _ ⟨rfl, rfl, lv_sub (lv_ex (lv_ex hl 2 rfl (congrArg Value.int e5)) 3 rfl (congrArg Value.int e6)) [0, 2, 3, 4, 5, 6] rfl⟩
        · skip
          refine lv_aload hx hb dX3_farthestFrom_38 (lv_at hl 0 rfl) ?_
          refine lv_iload_n hx hb dX3_farthestFrom_40 rfl (lv_at hl 6 rfl) ?_
          refine vp_callSi (va_runV (As := [.int (nI g)]) (rest := []) ⟨hx, hb, hml, hown, hts⟩ (conX0_lastOfRun l D T (ad (4 + i)) (ad (13 + i)) (F i) g (by omega)) (cwV 1 hts gX3_farthestFrom_X0_lastOfRun rfl rfl rfl (by decide +kernel) ⟨Nat.le_of_ble_eq_true rfl, Nat.le_of_ble_eq_true rfl⟩) (preV hK (hw.g i (by omega)) rfl ⟨(hw.gs i (by omega)).1, (hw.gs i (by omega)).2.1, (hw.gs i (by omega)).2.2⟩) rfl rfl hl.1 rfl (lv_room (Nat.le_of_ble_eq_true rfl)) dX3_farthestFrom_41 ⟨Nat.le_of_ble_eq_true rfl, Nat.le_of_ble_eq_true rfl⟩).run (fun r7 hr7 => ?_)
          rw [hr7]
          refine lv_iload hx hb dX3_farthestFrom_44 (lv_at hl 2 rfl) ?_
          refine lv_icmp_le (tgt := 60) hx hb dX3_farthestFrom_46 (by decide) (fun c46 => ?_) (fun c46 => ?_)
          · skip
            refine lv_iinc (v := nI (i + 1)) (lv' := [(5, .int (nI (i + 1))), (6, .ref (ad (4 + i))), (4, .int ((farS F fam g i).2)), (3, .int ((farS F fam g i).1)), (0, .ref (ad 0)), (1, .int (nI fam)), (2, .int (nI g))]) hx hb dX3_farthestFrom_60 hl (k := 1) rfl (inc_1 _) (by decide) rfl (fun ls hl => ?_)
            refine lv_goto (tgt := 8) hx hb dX3_farthestFrom_63 (by decide) ?_
            have e8 : (farS F fam g i).2 = (farS F fam g (i + 1)).2 := by first | (rw [farS_s, if_neg hm19]; done) | (rw [farS_s, if_pos hm19, if_pos c35]; done) | (rw [farS_s, if_pos hm19, if_neg c35, if_pos c46]; done) | (rw [farS_s, if_pos hm19, if_neg c35, if_neg c46]; done)
            have e9 : (farS F fam g i).1 = (farS F fam g (i + 1)).1 := by first | (rw [farS_s, if_neg hm19]; done) | (rw [farS_s, if_pos hm19, if_pos c35]; done) | (rw [farS_s, if_pos hm19, if_neg c35, if_pos c46]; done) | (rw [farS_s, if_pos hm19, if_neg c35, if_neg c46]; done)
            exact hnext _ _ _ ⟨rfl, rfl, lv_sub (lv_ex (lv_ex hl 2 rfl (congrArg Value.int e8)) 3 rfl (congrArg Value.int e9)) [0, 2, 3, 4, 5, 6] rfl⟩
          · skip
            refine lv_iload hx hb dX3_farthestFrom_49 (lv_at hl 1 rfl) ?_
            refine lv_istore_n (lv' := [(3, .int (nI i)), (6, .ref (ad (4 + i))), (5, .int (nI i)), (4, .int ((farS F fam g i).2)), (0, .ref (ad 0)), (1, .int (nI fam)), (2, .int (nI g))]) hx hb dX3_farthestFrom_51 rfl hl (by decide) rfl (fun ls hl => ?_)
            refine lv_aload hx hb dX3_farthestFrom_52 (lv_at hl 1 rfl) ?_
            refine lv_iload_n hx hb dX3_farthestFrom_54 rfl (lv_at hl 6 rfl) ?_
            refine vp_callSi (va_runV (As := [.int (nI g)]) (rest := []) ⟨hx, hb, hml, hown, hts⟩ (conX0_lastOfRun l D T (ad (4 + i)) (ad (13 + i)) (F i) g (by omega)) (cwV 1 hts gX3_farthestFrom_X0_lastOfRun rfl rfl rfl (by decide +kernel) ⟨Nat.le_of_ble_eq_true rfl, Nat.le_of_ble_eq_true rfl⟩) (preV hK (hw.g i (by omega)) rfl ⟨(hw.gs i (by omega)).1, (hw.gs i (by omega)).2.1, (hw.gs i (by omega)).2.2⟩) rfl rfl hl.1 rfl (lv_room (Nat.le_of_ble_eq_true rfl)) dX3_farthestFrom_55 ⟨Nat.le_of_ble_eq_true rfl, Nat.le_of_ble_eq_true rfl⟩).run (fun r10 hr10 => ?_)
            rw [hr10]
            refine lv_istore (lv' := [(4, .int (nI (lrN (F i) g))), (3, .int (nI i)), (6, .ref (ad (4 + i))), (5, .int (nI i)), (0, .ref (ad 0)), (1, .int (nI fam)), (2, .int (nI g))]) hx hb dX3_farthestFrom_58 hl (by decide) rfl (fun ls hl => ?_)
            refine lv_iinc (v := nI (i + 1)) (lv' := [(5, .int (nI (i + 1))), (4, .int (nI (lrN (F i) g))), (3, .int (nI i)), (6, .ref (ad (4 + i))), (0, .ref (ad 0)), (1, .int (nI fam)), (2, .int (nI g))]) hx hb dX3_farthestFrom_60 hl (k := 3) rfl (inc_1 _) (by decide) rfl (fun ls hl => ?_)
            refine lv_goto (tgt := 8) hx hb dX3_farthestFrom_63 (by decide) ?_
            have e11 : nI (lrN (F i) g) = (farS F fam g (i + 1)).2 := by first | (rw [farS_s, if_neg hm19]; done) | (rw [farS_s, if_pos hm19, if_pos c35]; done) | (rw [farS_s, if_pos hm19, if_neg c35, if_pos c46]; done) | (rw [farS_s, if_pos hm19, if_neg c35, if_neg c46]; done)
            have e12 : nI i = (farS F fam g (i + 1)).1 := by first | (rw [farS_s, if_neg hm19]; done) | (rw [farS_s, if_pos hm19, if_pos c35]; done) | (rw [farS_s, if_pos hm19, if_neg c35, if_pos c46]; done) | (rw [farS_s, if_pos hm19, if_neg c35, if_neg c46]; done)
            exact hnext _ _ _ ⟨rfl, rfl, lv_sub (lv_ex (lv_ex hl 1 rfl (congrArg Value.int e11)) 2 rfl (congrArg Value.int e12)) [0, 1, 2, 4, 5, 6] rfl⟩
      · skip
        rw [memN_f hm19]
        refine W.eq (g2 := F0 m 22 ls [.null]) rfl ?_
        refine lv_astoreN (lv' := [(6, .null), (5, .int (nI i)), (4, .int ((farS F fam g i).2)), (3, .int ((farS F fam g i).1)), (0, .ref (ad 0)), (1, .int (nI fam)), (2, .int (nI g))]) hx hb dX3_farthestFrom_22 hl (by decide) rfl (fun ls hl => ?_)
        refine lv_aloadN hx hb dX3_farthestFrom_24 (lv_at hl 0 rfl) ?_
        refine lv_ifnullN (tgt := 60) hx hb dX3_farthestFrom_26 (by decide) ?_
        refine lv_iinc (v := nI (i + 1)) (lv' := [(5, .int (nI (i + 1))), (6, .null), (4, .int ((farS F fam g i).2)), (3, .int ((farS F fam g i).1)), (0, .ref (ad 0)), (1, .int (nI fam)), (2, .int (nI g))]) hx hb dX3_farthestFrom_60 hl (k := 1) rfl (inc_1 _) (by decide) rfl (fun ls hl => ?_)
        refine lv_goto (tgt := 8) hx hb dX3_farthestFrom_63 (by decide) ?_
        have e13 : (farS F fam g i).2 = (farS F fam g (i + 1)).2 := by first | (rw [farS_s, if_neg hm19]; done) | (rw [farS_s, if_pos hm19, if_pos c35]; done) | (rw [farS_s, if_pos hm19, if_neg c35, if_pos c46]; done) | (rw [farS_s, if_pos hm19, if_neg c35, if_neg c46]; done)
        have e14 : (farS F fam g i).1 = (farS F fam g (i + 1)).1 := by first | (rw [farS_s, if_neg hm19]; done) | (rw [farS_s, if_pos hm19, if_pos c35]; done) | (rw [farS_s, if_pos hm19, if_neg c35, if_pos c46]; done) | (rw [farS_s, if_pos hm19, if_neg c35, if_neg c46]; done)
        exact hnext _ _ _ ⟨rfl, rfl, lv_sub (lv_ex (lv_ex hl 2 rfl (congrArg Value.int e13)) 3 rfl (congrArg Value.int e14)) [0, 2, 3, 4, 5, 6] rfl⟩
  · skip
    intro H locs ls hin9
    obtain ⟨rfl, rfl, hl⟩ := hin9
    refine lv_iload hx hb dX3_farthestFrom_8 (lv_at hl 0 rfl) ?_
    refine lv_bipush (v := nI 8) hx hb dX3_farthestFrom_10 (by decide) ?_
    refine lv_icmp_ge (tgt := 66) hx hb dX3_farthestFrom_12 (by decide) (fun c12 => ?_) (fun c12 => ?_)
    · skip
      have c12 : 8 ≤ 8 := (nc_le (a := 8) (b := 8) (by omega) (by omega)).mp c12
      refine lv_iload_n hx hb dX3_farthestFrom_66 rfl (lv_at hl 2 rfl) ?_
      exact W.iret (v := (farS F fam g 8).1) hx hb hr (fun t ht _ => ⟨(farS F fam g 8).1, rfl, by rfl, ht⟩) (fun q hq => absurd hq List.not_mem_nil) dX3_farthestFrom_67
    · skip
      have c12 : ¬ (8 ≤ 8) := fun q9 => c12 ((nc_le (a := 8) (b := 8) (by omega) (by omega)).mpr q9)
      omega

set_option maxHeartbeats 4000000 in
set_option maxRecDepth 100000 in
theorem conX3_takeCover (l : Launch) (D : va_G) (T : Nat → ClassId) (ad : Nat → Nat) (F V : Nat → Nat → Int32) (sr : SRs) (C : Nat → Int32) (k fam : Nat) (hk : k < 8) (hf : fam ≤ 255) : Met l yX3_takeCover wsX3_takeCover ({ frames := 3, cells := 0, slots := 0, locals := 69 }) (cP D T [.ref (ad 0), .int (nI fam), .ref (ad (4 + k))] (fun H => PLW D T ad F V sr C H)) (va_Qi (fun (r : Int32) (_ : Unit) => r = covV F fam (F k)) (fun _ t => ∃ C9 : Nat → Int32, PLW D T ad F V sr C9 t.heap) (PLA ad)) 0 0 (PLA ad) := by
  refine Met.ofW (cc := cX3_takeCover) (maxL := 8) (ret := (some .int)) (by decide) rfl ?_
  intro p e s m args below meth c s₁ B hml hv9
  obtain ⟨rfl, hK, hw⟩ := hv9
  have hx := B.exec
  have hb := B.bytes
  have hr := B.returns
  have hts := atoms_spec (ws := wsX3_takeCover) B.pre
  have hown : s.vm.findClass RX3 = some m.cls := findClass_of_methodNamed B.named
  have hlocks := B.notSynchronized
  have hin3 : ∀ w ∈ wsX30, w ∈ wsX3_takeCover := by decide +kernel
  generalize hAe : (PLA ad) = A
  have hA : ∀ i : Nat, i < 37 → A (ad i) := fun i hi => by subst hAe; exact ⟨i, hi, rfl⟩
  have hS : va_S A s.heap s.heap [] := va_S.rf
  have hl := lv_entry ([.ref (ad 0), .int (nI fam), .ref (ad (4 + k))]) (n := 8) (Nat.le_of_ble_eq_true rfl)
  rw [lg_entry_eq]
  generalize (lg_sl ([.ref (ad 0), .int (nI fam), .ref (ad (4 + k))]) ++ List.replicate (8 - (lg_sl ([.ref (ad 0), .int (nI fam), .ref (ad (4 + k))])).length) Slot.unset).toArray = ls at hl ⊢
  have hl : lv_has ls 8 [(0, .ref (ad 0)), (1, .int (nI fam)), (2, .ref (ad (4 + k)))] := hl
  refine lv_iconst (v := nI 0) hx hb dX3_takeCover_0 (by decide) ?_
  refine lv_istore_n (lv' := [(3, .int (nI 0)), (0, .ref (ad 0)), (1, .int (nI fam)), (2, .ref (ad (4 + k)))]) hx hb dX3_takeCover_1 rfl hl (by decide) rfl (fun ls hl => ?_)
  refine lv_iconst (v := (-1)) hx hb dX3_takeCover_2 (by decide) ?_
  refine lv_istore (lv' := [(4, .int (-1)), (3, .int (nI 0)), (0, .ref (ad 0)), (1, .int (nI fam)), (2, .ref (ad (4 + k)))]) hx hb dX3_takeCover_3 hl (by decide) rfl (fun ls hl => ?_)
  refine lv_iconst (v := nI 0) hx hb dX3_takeCover_5 (by decide) ?_
  refine lv_istore (lv' := [(5, .int (nI 0)), (4, .int (-1)), (3, .int (nI 0)), (0, .ref (ad 0)), (1, .int (nI fam)), (2, .ref (ad (4 + k)))]) hx hb dX3_takeCover_6 hl (by decide) rfl (fun ls hl => ?_)
  refine q_for (fun (i : Nat) (H : Heap) (locs : List Loc) (ls : Array Slot) => va_S A s.heap H locs ∧ lv_has ls 8 [(5, .int (nI i)), (4, .int ((tcS F fam (F k) i).2)), (3, .int (nI ((tcS F fam (F k) i).1))), (0, .ref (ad 0)), (1, .int (nI fam)), (2, .ref (ad (4 + k)))] ∧ PLW D T ad F V sr (tcC F fam (F k) C i) H ∧ (tcS F fam (F k) i).1 ≤ i ∧ ∀ j : Nat, j < i → ¬ stp F fam (F k) j) (N := 201) 0 (by omega) ?_ ?_ ?_
  · skip
    have e1 : (-1) = (tcS F fam (F k) 0).2 := by rfl
    have e2 : nI 0 = nI ((tcS F fam (F k) 0).1) := by rfl
    have e3 : C = tcC F fam (F k) C 0 := by rfl
    exact ⟨hS, lv_sub (lv_ex (lv_ex hl 1 rfl (congrArg Value.int e1)) 2 rfl (congrArg Value.int e2)) [0, 1, 2, 3, 4, 5] rfl, ((e3 ▸ hw) : PLW D T ad F V sr (tcC F fam (F k) C 0) _), (by exact tcS_le _ _ _ _), (by intro j hj; omega)⟩
  · skip
    intro i H locs ls hi9 hin9 hnext
    obtain ⟨hS, hl, hw, htl, hin⟩ := hin9
    refine lv_iload hx hb dX3_takeCover_8 (lv_at hl 0 rfl) ?_
    refine lv_sipush (v := nI 201) hx hb dX3_takeCover_10 (by decide) ?_
    refine lv_icmp_ge (tgt := 91) hx hb dX3_takeCover_13 (by decide) (fun c13 => ?_) (fun c13 => ?_)
    · skip
      have c13 : 201 ≤ i := (nc_le (a := 201) (b := i) (by omega) (by omega)).mp c13
      omega
    · skip
      have c13 : ¬ (201 ≤ i) := fun q9 => c13 ((nc_le (a := 201) (b := i) (by omega) (by omega)).mpr q9)
      refine lv_iload hx hb dX3_takeCover_16 (lv_at hl 0 rfl) ?_
      refine lv_iload hx hb dX3_takeCover_18 (lv_at hl 1 rfl) ?_
      refine lv_icmp_le (tgt := 85) hx hb dX3_takeCover_20 (by decide) (fun c20 => ?_) (fun c20 => ?_)
      · skip
        refine lv_iinc (v := nI (i + 1)) (lv' := [(5, .int (nI (i + 1))), (4, .int ((tcS F fam (F k) i).2)), (3, .int (nI ((tcS F fam (F k) i).1))), (0, .ref (ad 0)), (1, .int (nI fam)), (2, .ref (ad (4 + k)))]) hx hb dX3_takeCover_85 hl (k := 0) rfl (inc_1 _) (by decide) rfl (fun ls hl => ?_)
        refine lv_goto (tgt := 8) hx hb dX3_takeCover_88 (by decide) ?_
        have e4 : (tcS F fam (F k) i).2 = (tcS F fam (F k) (i + 1)).2 := by first | (rw [tcS_s, if_pos c20]; done) | (rw [tcS_s, if_neg c20, if_pos c29]; done) | (rw [tcS_s, if_neg c20, if_neg c29, farN_e hkk hfr]; done)
        have e5 : nI ((tcS F fam (F k) i).1) = nI ((tcS F fam (F k) (i + 1)).1) := by first | (rw [tcS_s, if_pos c20]; done) | (rw [tcS_s, if_neg c20, if_pos c29]; done) | (rw [tcS_s, if_neg c20, if_neg c29]; done)
        have e6 : tcC F fam (F k) C i = tcC F fam (F k) C (i + 1) := by first | (rw [tcC_s, if_pos c20]; done) | (rw [tcC_s, if_neg c20, if_pos c29]; done) | (rw [tcC_s, if_neg c20, if_neg c29, if_pos c71]; done) | (rw [tcC_s, if_neg c20, if_neg c29, if_neg c71, hfr]; done)
        exact hnext _ _ _ ⟨hS, lv_sub (lv_ex (lv_ex hl 1 rfl (congrArg Value.int e4)) 2 rfl (congrArg Value.int e5)) [0, 1, 2, 3, 4, 5] rfl, ((e6 ▸ hw) : PLW D T ad F V sr (tcC F fam (F k) C (i + 1)) _), (by exact tcS_le _ _ _ _), (by intro j hj; rcases Nat.lt_succ_iff_lt_or_eq.mp hj with q | rfl; exact hin j q; intro h8; first | exact h8.1 c20 | exact h8.2.1 c29 | exact far_no hkk hfr h8.2.2)⟩
      · skip
        refine lv_aload_n hx hb dX3_takeCover_23 rfl (lv_at hl 5 rfl) ?_
        refine lv_iload hx hb dX3_takeCover_24 (lv_at hl 0 rfl) ?_
        refine vp_callSi (va_runV (As := [.int (nI i)]) (rest := []) ⟨hx, hb, hml, hown, hts⟩ (conX0_holds l D T (ad (4 + k)) (ad (13 + k)) (F k) (nI i)) (cwV 1 hts gX3_takeCover_X0_holds rfl rfl rfl (by decide +kernel) ⟨Nat.le_of_ble_eq_true rfl, Nat.le_of_ble_eq_true rfl⟩) (preV hK (hw.g k (by omega)) rfl ⟨(hw.gs k (by omega)).1, (hw.gs k (by omega)).2.1, (hw.gs k (by omega)).2.2⟩) rfl rfl hl.1 rfl (lv_room (Nat.le_of_ble_eq_true rfl)) dX3_takeCover_26 ⟨Nat.le_of_ble_eq_true rfl, Nat.le_of_ble_eq_true rfl⟩).run (fun r7 hr7 => ?_)
        rw [hr7]
        refine lv_if_eq (tgt := 85) hx hb dX3_takeCover_29 (by decide) (fun c29 => ?_) (fun c29 => ?_)
        · skip
          refine lv_iinc (v := nI (i + 1)) (lv' := [(5, .int (nI (i + 1))), (4, .int ((tcS F fam (F k) i).2)), (3, .int (nI ((tcS F fam (F k) i).1))), (0, .ref (ad 0)), (1, .int (nI fam)), (2, .ref (ad (4 + k)))]) hx hb dX3_takeCover_85 hl (k := 0) rfl (inc_1 _) (by decide) rfl (fun ls hl => ?_)
          refine lv_goto (tgt := 8) hx hb dX3_takeCover_88 (by decide) ?_
          have e8 : (tcS F fam (F k) i).2 = (tcS F fam (F k) (i + 1)).2 := by first | (rw [tcS_s, if_pos c20]; done) | (rw [tcS_s, if_neg c20, if_pos c29]; done) | (rw [tcS_s, if_neg c20, if_neg c29, farN_e hkk hfr]; done)
          have e9 : nI ((tcS F fam (F k) i).1) = nI ((tcS F fam (F k) (i + 1)).1) := by first | (rw [tcS_s, if_pos c20]; done) | (rw [tcS_s, if_neg c20, if_pos c29]; done) | (rw [tcS_s, if_neg c20, if_neg c29]; done)
          have e10 : tcC F fam (F k) C i = tcC F fam (F k) C (i + 1) := by first | (rw [tcC_s, if_pos c20]; done) | (rw [tcC_s, if_neg c20, if_pos c29]; done) | (rw [tcC_s, if_neg c20, if_neg c29, if_pos c71]; done) | (rw [tcC_s, if_neg c20, if_neg c29, if_neg c71, hfr]; done)
          exact hnext _ _ _ ⟨hS, lv_sub (lv_ex (lv_ex hl 1 rfl (congrArg Value.int e8)) 2 rfl (congrArg Value.int e9)) [0, 1, 2, 3, 4, 5] rfl, ((e10 ▸ hw) : PLW D T ad F V sr (tcC F fam (F k) C (i + 1)) _), (by exact tcS_le _ _ _ _), (by intro j hj; rcases Nat.lt_succ_iff_lt_or_eq.mp hj with q | rfl; exact hin j q; intro h8; first | exact h8.1 c20 | exact h8.2.1 c29 | exact far_no hkk hfr h8.2.2)⟩
        · skip
          refine lv_aload_n hx hb dX3_takeCover_32 rfl (lv_at hl 3 rfl) ?_
          refine lv_iload_n hx hb dX3_takeCover_33 rfl (lv_at hl 4 rfl) ?_
          refine lv_iload hx hb dX3_takeCover_34 (lv_at hl 0 rfl) ?_
          refine vp_callSi (va_runV (As := [.int (nI fam), .int (nI i)]) (rest := []) ⟨hx, hb, hml, hown, hts⟩ (conX3_farthestFrom l D T ad F V sr (tcC F fam (F k) C i) fam i (by omega) (by omega)) (cwV 2 hts gX3_takeCover_X3_farthestFrom rfl rfl rfl (by decide +kernel) ⟨Nat.le_of_ble_eq_true rfl, Nat.le_of_ble_eq_true rfl⟩) (preV hK hw.o rfl hw) rfl rfl hl.1 rfl (lv_room (Nat.le_of_ble_eq_true rfl)) dX3_takeCover_36 ⟨Nat.le_of_ble_eq_true rfl, Nat.le_of_ble_eq_true rfl⟩).run (fun r11 hr11 => ?_)
          rw [hr11]
          refine lv_istore (lv' := [(6, .int ((farS F fam i 8).1)), (5, .int (nI i)), (4, .int ((tcS F fam (F k) i).2)), (3, .int (nI ((tcS F fam (F k) i).1))), (0, .ref (ad 0)), (1, .int (nI fam)), (2, .ref (ad (4 + k)))]) hx hb dX3_takeCover_39 hl (by decide) rfl (fun ls hl => ?_)
          rcases far_or F fam i with hfr | ⟨kk, hkk, hfr⟩
          · skip
            rw [hfr] at hl
            refine lv_aload_n hx hb dX3_takeCover_41 rfl (lv_at hl 4 rfl) ?_
            refine lv_iload hx hb dX3_takeCover_42 (lv_at hl 0 rfl) ?_
            refine va_csq (va_runV (As := [.int (-1)]) (rest := []) ⟨hx, hb, hml, hown, hts⟩ (conX3_setOrNullM l D T ad F V sr (tcC F fam (F k) C i) (-1) (by decide)) (cwV 1 hts gX3_takeCover_X3_setOrNull rfl rfl rfl (by decide +kernel) ⟨Nat.le_of_ble_eq_true rfl, Nat.le_of_ble_eq_true rfl⟩) (preV hK hw.o rfl hw) rfl rfl hl.1 rfl (lv_room (Nat.le_of_ble_eq_true rfl)) dX3_takeCover_44 ⟨Nat.le_of_ble_eq_true rfl, Nat.le_of_ble_eq_true rfl⟩).run (fun r12 hr12 => ?_)
            subst hr12
            refine W.eq (g2 := F0 m 47 ls [.null]) rfl ?_
            refine lv_astoreN (lv' := [(7, .null), (6, .int (-1)), (5, .int (nI i)), (4, .int ((tcS F fam (F k) i).2)), (3, .int (nI ((tcS F fam (F k) i).1))), (0, .ref (ad 0)), (1, .int (nI fam)), (2, .ref (ad (4 + k)))]) hx hb dX3_takeCover_47 hl (by decide) rfl (fun ls hl => ?_)
            refine lv_aloadN hx hb dX3_takeCover_49 (lv_at hl 0 rfl) ?_
            refine lv_ifnonnullN hx hb dX3_takeCover_51 ?_
            refine lv_iconst (v := (-1)) hx hb dX3_takeCover_54 (by decide) ?_
            exact W.iret (v := (-1)) hx hb hr (fun t ht _ => ⟨⟨(-1), (), rfl, by exact (covV_stop (by omega) ⟨c20, c29, hfr⟩).symm, by dsimp only; rw [ht]; exact ⟨_, hw⟩⟩, hS.F ht⟩) hS.2.2 dX3_takeCover_55
          · skip
            rw [hfr] at hl
            refine lv_aload_n hx hb dX3_takeCover_41 rfl (lv_at hl 4 rfl) ?_
            refine lv_iload hx hb dX3_takeCover_42 (lv_at hl 0 rfl) ?_
            refine va_csr (ad := fun k => .ref k) (va_runV (As := [.int (nI kk)]) (rest := []) ⟨hx, hb, hml, hown, hts⟩ (conX3_setOrNull l D T ad F V sr (tcC F fam (F k) C i) kk (by omega)) (cwV 1 hts gX3_takeCover_X3_setOrNull rfl rfl rfl (by decide +kernel) ⟨Nat.le_of_ble_eq_true rfl, Nat.le_of_ble_eq_true rfl⟩) (preV hK hw.o rfl hw) rfl rfl hl.1 rfl (lv_room (Nat.le_of_ble_eq_true rfl)) dX3_takeCover_44 ⟨Nat.le_of_ble_eq_true rfl, Nat.le_of_ble_eq_true rfl⟩).run (fun r13 hr13 => ?_)
            subst hr13
            refine lv_astore (lv' := [(7, .ref (ad (4 + kk))), (6, .int (nI kk)), (5, .int (nI i)), (4, .int ((tcS F fam (F k) i).2)), (3, .int (nI ((tcS F fam (F k) i).1))), (0, .ref (ad 0)), (1, .int (nI fam)), (2, .ref (ad (4 + k)))]) hx hb dX3_takeCover_47 hl (by decide) rfl (fun ls hl => ?_)
            refine lv_aload hx hb dX3_takeCover_49 (lv_at hl 0 rfl) ?_
            refine lv_ifnonnull (tgt := 56) hx hb dX3_takeCover_51 (by decide) ?_
            refine lv_aload hx hb dX3_takeCover_56 (lv_at hl 0 rfl) ?_
            refine lv_iload hx hb dX3_takeCover_58 (lv_at hl 2 rfl) ?_
            refine vp_callSi (va_runV (As := [.int (nI i)]) (rest := []) ⟨hx, hb, hml, hown, hts⟩ (conX0_lastOfRun l D T (ad (4 + kk)) (ad (13 + kk)) (F kk) i (by omega)) (cwV 1 hts gX3_takeCover_X0_lastOfRun rfl rfl rfl (by decide +kernel) ⟨Nat.le_of_ble_eq_true rfl, Nat.le_of_ble_eq_true rfl⟩) (preV hK (hw.g kk (by omega)) rfl ⟨(hw.gs kk (by omega)).1, (hw.gs kk (by omega)).2.1, (hw.gs kk (by omega)).2.2⟩) rfl rfl hl.1 rfl (lv_room (Nat.le_of_ble_eq_true rfl)) dX3_takeCover_60 ⟨Nat.le_of_ble_eq_true rfl, Nat.le_of_ble_eq_true rfl⟩).run (fun r14 hr14 => ?_)
            rw [hr14]
            refine lv_istore (lv' := [(4, .int (nI (lrN (F kk) i))), (7, .ref (ad (4 + kk))), (6, .int (nI kk)), (5, .int (nI i)), (3, .int (nI ((tcS F fam (F k) i).1))), (0, .ref (ad 0)), (1, .int (nI fam)), (2, .ref (ad (4 + k)))]) hx hb dX3_takeCover_63 hl (by decide) rfl (fun ls hl => ?_)
            refine lv_iload_n hx hb dX3_takeCover_65 rfl (lv_at hl 4 rfl) ?_
            refine lv_aload_n hx hb dX3_takeCover_66 rfl (lv_at hl 5 rfl) ?_
            refine q_get (v := .ref (ad 36)) hx hb hts hin3 hown hK hw.o rfl 5 (by decide) (hts (.fieldLink RX3 38 "PuddingstoneLine" "coverSets" "[I") (by decide +kernel)) (fun _ h9 => h9) rfl dX3_takeCover_67 ?_
            refine q_len hx hb hK 1 rfl hw.cv dX3_takeCover_70 ?_
            refine lv_icmp_ge (tgt := 82) hx hb dX3_takeCover_71 (by decide) (fun c71 => ?_) (fun c71 => ?_)
            · skip
              have c71 : 201 ≤ (tcS F fam (F k) i).1 := (nc_le (a := 201) (b := (tcS F fam (F k) i).1) (by omega) (by omega)).mp c71
              refine lv_iinc (v := nI (((tcS F fam (F k) i).1) + 1)) (lv' := [(3, .int (nI (((tcS F fam (F k) i).1) + 1))), (4, .int (nI (lrN (F kk) i))), (7, .ref (ad (4 + kk))), (6, .int (nI kk)), (5, .int (nI i)), (0, .ref (ad 0)), (1, .int (nI fam)), (2, .ref (ad (4 + k)))]) hx hb dX3_takeCover_82 hl (k := 4) rfl (inc_1 _) (by decide) rfl (fun ls hl => ?_)
              refine lv_iinc (v := nI (i + 1)) (lv' := [(5, .int (nI (i + 1))), (3, .int (nI (((tcS F fam (F k) i).1) + 1))), (4, .int (nI (lrN (F kk) i))), (7, .ref (ad (4 + kk))), (6, .int (nI kk)), (0, .ref (ad 0)), (1, .int (nI fam)), (2, .ref (ad (4 + k)))]) hx hb dX3_takeCover_85 hl (k := 4) rfl (inc_1 _) (by decide) rfl (fun ls hl => ?_)
              refine lv_goto (tgt := 8) hx hb dX3_takeCover_88 (by decide) ?_
              have e15 : nI (lrN (F kk) i) = (tcS F fam (F k) (i + 1)).2 := by first | (rw [tcS_s, if_pos c20]; done) | (rw [tcS_s, if_neg c20, if_pos c29]; done) | (rw [tcS_s, if_neg c20, if_neg c29, farN_e hkk hfr]; done)
              have e16 : nI (((tcS F fam (F k) i).1) + 1) = nI ((tcS F fam (F k) (i + 1)).1) := by first | (rw [tcS_s, if_pos c20]; done) | (rw [tcS_s, if_neg c20, if_pos c29]; done) | (rw [tcS_s, if_neg c20, if_neg c29]; done)
              have e17 : tcC F fam (F k) C i = tcC F fam (F k) C (i + 1) := by first | (rw [tcC_s, if_pos c20]; done) | (rw [tcC_s, if_neg c20, if_pos c29]; done) | (rw [tcC_s, if_neg c20, if_neg c29, if_pos c71]; done) | (rw [tcC_s, if_neg c20, if_neg c29, if_neg c71, hfr]; done)
              exact hnext _ _ _ ⟨hS, lv_sub (lv_ex (lv_ex hl 2 rfl (congrArg Value.int e15)) 1 rfl (congrArg Value.int e16)) [0, 2, 1, 5, 6, 7] rfl, ((e17 ▸ hw) : PLW D T ad F V sr (tcC F fam (F k) C (i + 1)) _), (by exact tcS_le _ _ _ _), (by intro j hj; rcases Nat.lt_succ_iff_lt_or_eq.mp hj with q | rfl; exact hin j q; intro h8; first | exact h8.1 c20 | exact h8.2.1 c29 | exact far_no hkk hfr h8.2.2)⟩
            · skip
              have c71 : ¬ (201 ≤ (tcS F fam (F k) i).1) := fun q9 => c71 ((nc_le (a := 201) (b := (tcS F fam (F k) i).1) (by omega) (by omega)).mpr q9)
              refine lv_aload_n hx hb dX3_takeCover_74 rfl (lv_at hl 5 rfl) ?_
              refine q_get (v := .ref (ad 36)) hx hb hts hin3 hown hK hw.o rfl 5 (by decide) (hts (.fieldLink RX3 38 "PuddingstoneLine" "coverSets" "[I") (by decide +kernel)) (fun _ h9 => h9) rfl dX3_takeCover_75 ?_
              refine lv_iload_n hx hb dX3_takeCover_78 rfl (lv_at hl 4 rfl) ?_
              refine lv_iload hx hb dX3_takeCover_79 (lv_at hl 2 rfl) ?_
              refine q_iast hx hb hK hw.cv ((tcS F fam (F k) i).1) (rfl) (by omega) (by decide) hS (hA 36 (by omega)) dX3_takeCover_81 (fun H1 locs1 hw9 hz oq hS => ?_)
              replace hw := hw.setC hw9 oq
              refine lv_iinc (v := nI (((tcS F fam (F k) i).1) + 1)) (lv' := [(3, .int (nI (((tcS F fam (F k) i).1) + 1))), (4, .int (nI (lrN (F kk) i))), (7, .ref (ad (4 + kk))), (6, .int (nI kk)), (5, .int (nI i)), (0, .ref (ad 0)), (1, .int (nI fam)), (2, .ref (ad (4 + k)))]) hx hb dX3_takeCover_82 hl (k := 4) rfl (inc_1 _) (by decide) rfl (fun ls hl => ?_)
              refine lv_iinc (v := nI (i + 1)) (lv' := [(5, .int (nI (i + 1))), (3, .int (nI (((tcS F fam (F k) i).1) + 1))), (4, .int (nI (lrN (F kk) i))), (7, .ref (ad (4 + kk))), (6, .int (nI kk)), (0, .ref (ad 0)), (1, .int (nI fam)), (2, .ref (ad (4 + k)))]) hx hb dX3_takeCover_85 hl (k := 4) rfl (inc_1 _) (by decide) rfl (fun ls hl => ?_)
              refine lv_goto (tgt := 8) hx hb dX3_takeCover_88 (by decide) ?_
              have e18 : nI (lrN (F kk) i) = (tcS F fam (F k) (i + 1)).2 := by first | (rw [tcS_s, if_pos c20]; done) | (rw [tcS_s, if_neg c20, if_pos c29]; done) | (rw [tcS_s, if_neg c20, if_neg c29, farN_e hkk hfr]; done)
              have e19 : nI (((tcS F fam (F k) i).1) + 1) = nI ((tcS F fam (F k) (i + 1)).1) := by first | (rw [tcS_s, if_pos c20]; done) | (rw [tcS_s, if_neg c20, if_pos c29]; done) | (rw [tcS_s, if_neg c20, if_neg c29]; done)
              have e20 : upd (tcC F fam (F k) C i) ((tcS F fam (F k) i).1) (nI kk) = tcC F fam (F k) C (i + 1) := by first | (rw [tcC_s, if_pos c20]; done) | (rw [tcC_s, if_neg c20, if_pos c29]; done) | (rw [tcC_s, if_neg c20, if_neg c29, if_pos c71]; done) | (rw [tcC_s, if_neg c20, if_neg c29, if_neg c71, hfr]; done)
              exact hnext _ _ _ ⟨hS, lv_sub (lv_ex (lv_ex hl 2 rfl (congrArg Value.int e18)) 1 rfl (congrArg Value.int e19)) [0, 2, 1, 5, 6, 7] rfl, ((e20 ▸ hw) : PLW D T ad F V sr (tcC F fam (F k) C (i + 1)) _), (by exact tcS_le _ _ _ _), (by intro j hj; rcases Nat.lt_succ_iff_lt_or_eq.mp hj with q | rfl; exact hin j q; intro h8; first | exact h8.1 c20 | exact h8.2.1 c29 | exact far_no hkk hfr h8.2.2)⟩
  · skip
    intro H locs ls hin9
    obtain ⟨hS, hl, hw, htl, hin⟩ := hin9
    refine lv_iload hx hb dX3_takeCover_8 (lv_at hl 0 rfl) ?_
    refine lv_sipush (v := nI 201) hx hb dX3_takeCover_10 (by decide) ?_
    refine lv_icmp_ge (tgt := 91) hx hb dX3_takeCover_13 (by decide) (fun c13 => ?_) (fun c13 => ?_)
    · skip
      have c13 : 201 ≤ 201 := (nc_le (a := 201) (b := 201) (by omega) (by omega)).mp c13
      refine lv_iload_n hx hb dX3_takeCover_91 rfl (lv_at hl 2 rfl) ?_
      exact W.iret (v := nI ((tcS F fam (F k) 201).1)) hx hb hr (fun t ht _ => ⟨⟨nI ((tcS F fam (F k) 201).1), (), rfl, by exact (covV_all hin).symm, by dsimp only; rw [ht]; exact ⟨_, hw⟩⟩, hS.F ht⟩) hS.2.2 dX3_takeCover_92
    · skip
      have c13 : ¬ (201 ≤ 201) := fun q9 => c13 ((nc_le (a := 201) (b := 201) (by omega) (by omega)).mpr q9)
      omega

set_option maxHeartbeats 4000000 in
set_option maxRecDepth 100000 in
theorem conX3_cover (l : Launch) (D : va_G) (T : Nat → ClassId) (ad : Nat → Nat) (F V : Nat → Nat → Int32) (sr : SRs) (C : Nat → Int32) (k fam : Nat) (hk : k < 8) (hf : fam ≤ 255) : Met l yX3_cover wsX3_cover ({ frames := 4, cells := 0, slots := 0, locals := 96 }) (cP D T [.ref (ad 0), .int (nI fam), .int (nI k)] (fun H => PLW D T ad F V sr C H)) (va_Qi (fun (r : Int32) (_ : Unit) => r = covV F fam (F k)) (fun _ t => ∃ C9 : Nat → Int32, PLW D T ad F V sr C9 t.heap) (PLA ad)) 0 0 (PLA ad) := by
  refine Met.ofW (cc := cX3_cover) (maxL := 4) (ret := (some .int)) (by decide) rfl ?_
  intro p e s m args below meth c s₁ B hml hv9
  obtain ⟨rfl, hK, hw⟩ := hv9
  have hx := B.exec
  have hb := B.bytes
  have hr := B.returns
  have hts := atoms_spec (ws := wsX3_cover) B.pre
  have hown : s.vm.findClass RX3 = some m.cls := findClass_of_methodNamed B.named
  have hlocks := B.notSynchronized
  generalize hAe : (PLA ad) = A
  have hA : ∀ i : Nat, i < 37 → A (ad i) := fun i hi => by subst hAe; exact ⟨i, hi, rfl⟩
  have hS : va_S A s.heap s.heap [] := va_S.rf
  have hl := lv_entry ([.ref (ad 0), .int (nI fam), .int (nI k)]) (n := 4) (Nat.le_of_ble_eq_true rfl)
  rw [lg_entry_eq]
  generalize (lg_sl ([.ref (ad 0), .int (nI fam), .int (nI k)]) ++ List.replicate (4 - (lg_sl ([.ref (ad 0), .int (nI fam), .int (nI k)])).length) Slot.unset).toArray = ls at hl ⊢
  have hl : lv_has ls 4 [(0, .ref (ad 0)), (1, .int (nI fam)), (2, .int (nI k))] := hl
  refine lv_aload_n hx hb dX3_cover_0 rfl (lv_at hl 0 rfl) ?_
  refine lv_iload_n hx hb dX3_cover_1 rfl (lv_at hl 2 rfl) ?_
  refine va_csr (ad := fun k => .ref k) (va_runV (As := [.int (nI k)]) (rest := []) ⟨hx, hb, hml, hown, hts⟩ (conX3_setAt l D T ad F V sr C k (by omega)) (cwV 1 hts gX3_cover_X3_setAt rfl rfl rfl (by decide +kernel) ⟨Nat.le_of_ble_eq_true rfl, Nat.le_of_ble_eq_true rfl⟩) (preV hK hw.o rfl hw) rfl rfl hl.1 rfl (lv_room (Nat.le_of_ble_eq_true rfl)) dX3_cover_2 ⟨Nat.le_of_ble_eq_true rfl, Nat.le_of_ble_eq_true rfl⟩).run (fun r1 hr1 => ?_)
  subst hr1
  refine lv_astore_n (lv' := [(3, .ref (ad (4 + k))), (0, .ref (ad 0)), (1, .int (nI fam)), (2, .int (nI k))]) hx hb dX3_cover_5 rfl hl (by decide) rfl (fun ls hl => ?_)
  refine lv_iload_n hx hb dX3_cover_6 rfl (lv_at hl 2 rfl) ?_
  refine va_csv (va_runS (As := [.int (nI fam)]) (rest := []) ⟨hx, hb, hml, hown, hts⟩ (conX3_checkFamily l D T fam (by omega)) (va_cwS 1 hts gX3_cover_X3_checkFamily rfl rfl rfl (by decide +kernel) ⟨Nat.le_of_ble_eq_true rfl, Nat.le_of_ble_eq_true rfl⟩) (preS hK trivial) rfl rfl hl.1 rfl (lv_room (Nat.le_of_ble_eq_true rfl)) dX3_cover_7 ⟨Nat.le_of_ble_eq_true rfl, Nat.le_of_ble_eq_true rfl⟩).run (fun _ => ?_)
  refine lv_aload_n hx hb dX3_cover_10 rfl (lv_at hl 1 rfl) ?_
  refine lv_iload_n hx hb dX3_cover_11 rfl (lv_at hl 2 rfl) ?_
  refine lv_aload_n hx hb dX3_cover_12 rfl (lv_at hl 0 rfl) ?_
  refine va_calli (va_runV (As := [.int (nI fam), .ref (ad (4 + k))]) (rest := []) ⟨hx, hb, hml, hown, hts⟩ (conX3_takeCover l D T ad F V sr C k fam (by omega) (by first | omega | exact Nat.sub_le _ _)) (cwV 2 hts gX3_cover_X3_takeCover rfl rfl rfl (by decide +kernel) ⟨Nat.le_of_ble_eq_true rfl, Nat.le_of_ble_eq_true rfl⟩) (preV hK hw.o rfl hw) rfl rfl hl.1 rfl (lv_room (Nat.le_of_ble_eq_true rfl)) dX3_cover_13 ⟨Nat.le_of_ble_eq_true rfl, Nat.le_of_ble_eq_true rfl⟩) hS (fun q _ h9 => (by obtain ⟨i8, h7, h8⟩ := (show PLA ad q from h9); rw [h8]; exact hA i8 h7)) (fun q h9 => (by obtain ⟨i8, h7, h8⟩ := (show PLA ad q from h9); rw [h8]; exact hA i8 h7)) (fun r u t H1 locs1 ht hvm hw9 hB hz1 hk1 hS => ?_)
  try dsimp only at hB
  rw [ht] at hB
  rw [hw9]
  obtain ⟨cz1, hw⟩ := hB
  exact W.iret (v := covV F fam (F k)) hx hb hr (fun t ht _ => ⟨⟨covV F fam (F k), (), rfl, by rfl, by dsimp only; rw [ht]; exact ⟨_, hw⟩⟩, hS.F ht⟩) hS.2.2 dX3_cover_16

set_option maxHeartbeats 4000000 in
set_option maxRecDepth 100000 in
theorem conX3_saves (l : Launch) (D : va_G) (T : Nat → ClassId) (ad : Nat → Nat) (F V : Nat → Nat → Int32) (sr : SRs) (C : Nat → Int32) (k j fam : Nat) (hk : k < 8) (hj : j < 8) (hf : fam ≤ 255) : Met l yX3_saves wsX3_saves ({ frames := 4, cells := 0, slots := 0, locals := 96 }) (cP D T [.ref (ad 0), .int (nI fam), .int (nI k), .int (nI j)] (fun H => PLW D T ad F V sr C H)) (va_Qi (fun (r : Int32) (_ : Unit) => r = savV F fam k j) (fun _ t => ∃ C9 : Nat → Int32, PLW D T ad F V sr C9 t.heap) (PLA ad)) 0 0 (PLA ad) := by
  refine Met.ofW (cc := cX3_saves) (maxL := 7) (ret := (some .int)) (by decide) rfl ?_
  intro p e s m args below meth c s₁ B hml hv9
  obtain ⟨rfl, hK, hw⟩ := hv9
  have hx := B.exec
  have hb := B.bytes
  have hr := B.returns
  have hts := atoms_spec (ws := wsX3_saves) B.pre
  have hown : s.vm.findClass RX3 = some m.cls := findClass_of_methodNamed B.named
  have hlocks := B.notSynchronized
  generalize hAe : (PLA ad) = A
  have hA : ∀ i : Nat, i < 37 → A (ad i) := fun i hi => by subst hAe; exact ⟨i, hi, rfl⟩
  have hS : va_S A s.heap s.heap [] := va_S.rf
  have hl := lv_entry ([.ref (ad 0), .int (nI fam), .int (nI k), .int (nI j)]) (n := 7) (Nat.le_of_ble_eq_true rfl)
  rw [lg_entry_eq]
  generalize (lg_sl ([.ref (ad 0), .int (nI fam), .int (nI k), .int (nI j)]) ++ List.replicate (7 - (lg_sl ([.ref (ad 0), .int (nI fam), .int (nI k), .int (nI j)])).length) Slot.unset).toArray = ls at hl ⊢
  have hl : lv_has ls 7 [(0, .ref (ad 0)), (1, .int (nI fam)), (2, .int (nI k)), (3, .int (nI j))] := hl
  have hor := orN_le hf hj
  refine lv_aload_n hx hb dX3_saves_0 rfl (lv_at hl 0 rfl) ?_
  refine lv_iload_n hx hb dX3_saves_1 rfl (lv_at hl 2 rfl) ?_
  refine va_csr (ad := fun k => .ref k) (va_runV (As := [.int (nI k)]) (rest := []) ⟨hx, hb, hml, hown, hts⟩ (conX3_setAt l D T ad F V sr C k (by omega)) (cwV 1 hts gX3_saves_X3_setAt rfl rfl rfl (by decide +kernel) ⟨Nat.le_of_ble_eq_true rfl, Nat.le_of_ble_eq_true rfl⟩) (preV hK hw.o rfl hw) rfl rfl hl.1 rfl (lv_room (Nat.le_of_ble_eq_true rfl)) dX3_saves_2 ⟨Nat.le_of_ble_eq_true rfl, Nat.le_of_ble_eq_true rfl⟩).run (fun r1 hr1 => ?_)
  subst hr1
  refine lv_astore (lv' := [(4, .ref (ad (4 + k))), (0, .ref (ad 0)), (1, .int (nI fam)), (2, .int (nI k)), (3, .int (nI j))]) hx hb dX3_saves_5 hl (by decide) rfl (fun ls hl => ?_)
  refine lv_iload_n hx hb dX3_saves_7 rfl (lv_at hl 4 rfl) ?_
  refine va_csv (va_runS (As := [.int (nI j)]) (rest := []) ⟨hx, hb, hml, hown, hts⟩ (conX3_checkSet l D T j (by omega)) (va_cwS 1 hts gX3_saves_X3_checkSet rfl rfl rfl (by decide +kernel) ⟨Nat.le_of_ble_eq_true rfl, Nat.le_of_ble_eq_true rfl⟩) (preS hK trivial) rfl rfl hl.1 rfl (lv_room (Nat.le_of_ble_eq_true rfl)) dX3_saves_8 ⟨Nat.le_of_ble_eq_true rfl, Nat.le_of_ble_eq_true rfl⟩).run (fun _ => ?_)
  refine lv_iload_n hx hb dX3_saves_11 rfl (lv_at hl 2 rfl) ?_
  refine va_csv (va_runS (As := [.int (nI fam)]) (rest := []) ⟨hx, hb, hml, hown, hts⟩ (conX3_checkFamily l D T fam (by omega)) (va_cwS 1 hts gX3_saves_X3_checkFamily rfl rfl rfl (by decide +kernel) ⟨Nat.le_of_ble_eq_true rfl, Nat.le_of_ble_eq_true rfl⟩) (preS hK trivial) rfl rfl hl.1 rfl (lv_room (Nat.le_of_ble_eq_true rfl)) dX3_saves_12 ⟨Nat.le_of_ble_eq_true rfl, Nat.le_of_ble_eq_true rfl⟩).run (fun _ => ?_)
  refine lv_aload_n hx hb dX3_saves_15 rfl (lv_at hl 1 rfl) ?_
  refine lv_iload_n hx hb dX3_saves_16 rfl (lv_at hl 2 rfl) ?_
  refine lv_iconst (v := nI 1) hx hb dX3_saves_17 (by decide) ?_
  refine lv_iload_n hx hb dX3_saves_18 rfl (lv_at hl 4 rfl) ?_
  refine lv_ishl hx hb dX3_saves_19 ?_
  refine lv_ior hx hb dX3_saves_20 ?_
  rw [or_e (by omega) hj]
  refine lv_aload hx hb dX3_saves_21 (lv_at hl 0 rfl) ?_
  refine va_calli (va_runV (As := [.int (nI (orN fam j)), .ref (ad (4 + k))]) (rest := []) ⟨hx, hb, hml, hown, hts⟩ (conX3_takeCover l D T ad F V sr C k (orN fam j) (by omega) (by first | omega | exact Nat.sub_le _ _)) (cwV 2 hts gX3_saves_X3_takeCover rfl rfl rfl (by decide +kernel) ⟨Nat.le_of_ble_eq_true rfl, Nat.le_of_ble_eq_true rfl⟩) (preV hK hw.o rfl hw) rfl rfl hl.1 rfl (lv_room (Nat.le_of_ble_eq_true rfl)) dX3_saves_23 ⟨Nat.le_of_ble_eq_true rfl, Nat.le_of_ble_eq_true rfl⟩) hS (fun q _ h9 => (by obtain ⟨i8, h7, h8⟩ := (show PLA ad q from h9); rw [h8]; exact hA i8 h7)) (fun q h9 => (by obtain ⟨i8, h7, h8⟩ := (show PLA ad q from h9); rw [h8]; exact hA i8 h7)) (fun r u t H1 locs1 ht hvm hw9 hB hz1 hk1 hS => ?_)
  try dsimp only at hB
  rw [ht] at hB
  rw [hw9]
  obtain ⟨cz1, hw⟩ := hB
  refine lv_istore (lv' := [(5, .int (covV F (orN fam j) (F k))), (4, .ref (ad (4 + k))), (0, .ref (ad 0)), (1, .int (nI fam)), (2, .int (nI k)), (3, .int (nI j))]) hx hb dX3_saves_26 hl (by decide) rfl (fun ls hl => ?_)
  refine lv_iload hx hb dX3_saves_28 (lv_at hl 0 rfl) ?_
  refine lv_iconst (v := (-1)) hx hb dX3_saves_30 (by decide) ?_
  refine lv_icmp_ne (tgt := 36) hx hb dX3_saves_31 (by decide) (fun c31 => ?_) (fun c31 => ?_)
  · skip
    refine lv_aload_n hx hb dX3_saves_36 rfl (lv_at hl 2 rfl) ?_
    refine lv_iload_n hx hb dX3_saves_37 rfl (lv_at hl 3 rfl) ?_
    refine lv_aload hx hb dX3_saves_38 (lv_at hl 1 rfl) ?_
    refine va_calli (va_runV (As := [.int (nI fam), .ref (ad (4 + k))]) (rest := []) ⟨hx, hb, hml, hown, hts⟩ (conX3_takeCover l D T ad F V sr cz1 k fam (by omega) (by first | omega | exact Nat.sub_le _ _)) (cwV 2 hts gX3_saves_X3_takeCover rfl rfl rfl (by decide +kernel) ⟨Nat.le_of_ble_eq_true rfl, Nat.le_of_ble_eq_true rfl⟩) (preV hK hw.o rfl hw) rfl rfl hl.1 rfl (lv_room (Nat.le_of_ble_eq_true rfl)) dX3_saves_40 ⟨Nat.le_of_ble_eq_true rfl, Nat.le_of_ble_eq_true rfl⟩) hS (fun q _ h9 => (by obtain ⟨i8, h7, h8⟩ := (show PLA ad q from h9); rw [h8]; exact hA i8 h7)) (fun q h9 => (by obtain ⟨i8, h7, h8⟩ := (show PLA ad q from h9); rw [h8]; exact hA i8 h7)) (fun r u t H1 locs1 ht hvm hw9 hB hz1 hk1 hS => ?_)
    try dsimp only at hB
    rw [ht] at hB
    rw [hw9]
    obtain ⟨cz2, hw⟩ := hB
    refine lv_istore (lv' := [(6, .int (covV F fam (F k))), (5, .int (covV F (orN fam j) (F k))), (4, .ref (ad (4 + k))), (0, .ref (ad 0)), (1, .int (nI fam)), (2, .int (nI k)), (3, .int (nI j))]) hx hb dX3_saves_43 hl (by decide) rfl (fun ls hl => ?_)
    refine lv_iload hx hb dX3_saves_45 (lv_at hl 0 rfl) ?_
    refine lv_iconst (v := (-1)) hx hb dX3_saves_47 (by decide) ?_
    refine lv_icmp_ne (tgt := 57) hx hb dX3_saves_48 (by decide) (fun c48 => ?_) (fun c48 => ?_)
    · skip
      refine lv_iload hx hb dX3_saves_57 (lv_at hl 0 rfl) ?_
      refine lv_iload hx hb dX3_saves_59 (lv_at hl 1 rfl) ?_
      refine lv_isub hx hb dX3_saves_61 ?_
      exact W.iret (v := (covV F fam (F k)) - (covV F (orN fam j) (F k))) hx hb hr (fun t ht _ => ⟨⟨(covV F fam (F k)) - (covV F (orN fam j) (F k)), (), rfl, by first | (rw [savV, if_neg c31, if_pos c48]; done) | (rw [savV, if_neg c31, if_neg c48]; done), by dsimp only; rw [ht]; exact ⟨_, hw⟩⟩, hS.F ht⟩) hS.2.2 dX3_saves_62
    · skip
      refine lv_sipush (v := nI 1000) hx hb dX3_saves_51 (by decide) ?_
      refine lv_goto (tgt := 62) hx hb dX3_saves_54 (by decide) ?_
      exact W.iret (v := nI 1000) hx hb hr (fun t ht _ => ⟨⟨nI 1000, (), rfl, by first | (rw [savV, if_neg c31, if_pos c48]; done) | (rw [savV, if_neg c31, if_neg c48]; done), by dsimp only; rw [ht]; exact ⟨_, hw⟩⟩, hS.F ht⟩) hS.2.2 dX3_saves_62
  · skip
    refine lv_iconst (v := (-1)) hx hb dX3_saves_34 (by decide) ?_
    exact W.iret (v := (-1)) hx hb hr (fun t ht _ => ⟨⟨(-1), (), rfl, by rw [savV, if_pos c31], by dsimp only; rw [ht]; exact ⟨_, hw⟩⟩, hS.F ht⟩) hS.2.2 dX3_saves_35

set_option maxHeartbeats 4000000 in
set_option maxRecDepth 100000 in
theorem conX3_endsUnpinned (l : Launch) (D : va_G) (T : Nat → ClassId) (ad : Nat → Nat) (F V : Nat → Nat → Int32) (sr : SRs) (C : Nat → Int32) (fam g : Nat) (lp : Int32) (hf : fam ≤ 255) (hg : g < 201) : Met l yX3_endsUnpinned wsX3_endsUnpinned ({ frames := 2, cells := 0, slots := 0, locals := 43 }) (cP D T [.ref (ad 0), .int (nI fam), .int (nI g), .int lp] (fun H => PLW D T ad F V sr C H)) (vp_Si (fun r => r = epZ F fam g lp)) 0 0 (fun _ => False) := by
  refine Met.ofW (cc := cX3_endsUnpinned) (maxL := 6) (ret := (some .boolean)) (by decide) rfl ?_
  intro p e s m args below meth c s₁ B hml hv9
  obtain ⟨rfl, hK, hw⟩ := hv9
  have hx := B.exec
  have hb := B.bytes
  have hr := B.returns
  have hts := atoms_spec (ws := wsX3_endsUnpinned) B.pre
  have hown : s.vm.findClass RX3 = some m.cls := findClass_of_methodNamed B.named
  have hlocks := B.notSynchronized
  have hl := lv_entry ([.ref (ad 0), .int (nI fam), .int (nI g), .int lp]) (n := 6) (Nat.le_of_ble_eq_true rfl)
  rw [lg_entry_eq]
  generalize (lg_sl ([.ref (ad 0), .int (nI fam), .int (nI g), .int lp]) ++ List.replicate (6 - (lg_sl ([.ref (ad 0), .int (nI fam), .int (nI g), .int lp])).length) Slot.unset).toArray = ls at hl ⊢
  have hl : lv_has ls 6 [(0, .ref (ad 0)), (1, .int (nI fam)), (2, .int (nI g)), (3, .int lp)] := hl
  refine lv_iconst (v := nI 0) hx hb dX3_endsUnpinned_0 (by decide) ?_
  refine lv_istore (lv' := [(4, .int (nI 0)), (0, .ref (ad 0)), (1, .int (nI fam)), (2, .int (nI g)), (3, .int lp)]) hx hb dX3_endsUnpinned_1 hl (by decide) rfl (fun ls hl => ?_)
  refine q_for (fun (i : Nat) (H : Heap) (locs : List Loc) (ls : Array Slot) => H = s.heap ∧ locs = [] ∧ lv_has ls 6 [(4, .int (nI i)), (0, .ref (ad 0)), (1, .int (nI fam)), (2, .int (nI g)), (3, .int lp)] ∧ ∀ j : Nat, j < i → ¬ epP F fam g lp j) (N := 8) 0 (by omega) ?_ ?_ ?_
  · skip
    exact ⟨rfl, rfl, lv_sub hl [0, 1, 2, 3, 4] rfl, (by intro j hj; omega)⟩
  · skip
    intro i H locs ls hi9 hin9 hnext
    obtain ⟨rfl, rfl, hl, hin⟩ := hin9
    refine lv_iload hx hb dX3_endsUnpinned_3 (lv_at hl 0 rfl) ?_
    refine lv_bipush (v := nI 8) hx hb dX3_endsUnpinned_5 (by decide) ?_
    refine lv_icmp_ge (tgt := 62) hx hb dX3_endsUnpinned_7 (by decide) (fun c7 => ?_) (fun c7 => ?_)
    · skip
      have c7 : 8 ≤ i := (nc_le (a := 8) (b := i) (by omega) (by omega)).mp c7
      omega
    · skip
      have c7 : ¬ (8 ≤ i) := fun q9 => c7 ((nc_le (a := 8) (b := i) (by omega) (by omega)).mpr q9)
      refine lv_aload_n hx hb dX3_endsUnpinned_10 rfl (lv_at hl 1 rfl) ?_
      refine lv_iload_n hx hb dX3_endsUnpinned_11 rfl (lv_at hl 2 rfl) ?_
      refine lv_iload hx hb dX3_endsUnpinned_12 (lv_at hl 0 rfl) ?_
      refine va_csq (va_runV (As := [.int (nI fam), .int (nI i)]) (rest := []) ⟨hx, hb, hml, hown, hts⟩ (conX3_memberOrNull l D T ad F V sr C fam i (by omega) (by omega)) (cwV 2 hts gX3_endsUnpinned_X3_memberOrNull rfl rfl rfl (by decide +kernel) ⟨Nat.le_of_ble_eq_true rfl, Nat.le_of_ble_eq_true rfl⟩) (preV hK hw.o rfl hw) rfl rfl hl.1 rfl (lv_room (Nat.le_of_ble_eq_true rfl)) dX3_endsUnpinned_14 ⟨Nat.le_of_ble_eq_true rfl, Nat.le_of_ble_eq_true rfl⟩).run (fun r1 hr1 => ?_)
      subst hr1
      by_cases hm14 : fam / 2 ^ i % 2 = 1
      · skip
        rw [memN_t hm14]
        refine W.eq (g2 := F0 m 17 ls [.ref (ad (4 + i))]) rfl ?_
        refine lv_astore (lv' := [(5, .ref (ad (4 + i))), (4, .int (nI i)), (0, .ref (ad 0)), (1, .int (nI fam)), (2, .int (nI g)), (3, .int lp)]) hx hb dX3_endsUnpinned_17 hl (by decide) rfl (fun ls hl => ?_)
        refine lv_aload hx hb dX3_endsUnpinned_19 (lv_at hl 0 rfl) ?_
        refine lv_ifnull hx hb dX3_endsUnpinned_21 ?_
        refine lv_aload hx hb dX3_endsUnpinned_24 (lv_at hl 0 rfl) ?_
        refine lv_iload_n hx hb dX3_endsUnpinned_26 rfl (lv_at hl 4 rfl) ?_
        refine vp_callSi (va_runV (As := [.int (nI g)]) (rest := []) ⟨hx, hb, hml, hown, hts⟩ (conX0_holds l D T (ad (4 + i)) (ad (13 + i)) (F i) (nI g)) (cwV 1 hts gX3_endsUnpinned_X0_holds rfl rfl rfl (by decide +kernel) ⟨Nat.le_of_ble_eq_true rfl, Nat.le_of_ble_eq_true rfl⟩) (preV hK (hw.g i (by omega)) rfl ⟨(hw.gs i (by omega)).1, (hw.gs i (by omega)).2.1, (hw.gs i (by omega)).2.2⟩) rfl rfl hl.1 rfl (lv_room (Nat.le_of_ble_eq_true rfl)) dX3_endsUnpinned_27 ⟨Nat.le_of_ble_eq_true rfl, Nat.le_of_ble_eq_true rfl⟩).run (fun r2 hr2 => ?_)
        rw [hr2]
        refine lv_if_eq (tgt := 56) hx hb dX3_endsUnpinned_30 (by decide) (fun c30 => ?_) (fun c30 => ?_)
        · skip
          refine lv_iinc (v := nI (i + 1)) (lv' := [(4, .int (nI (i + 1))), (5, .ref (ad (4 + i))), (0, .ref (ad 0)), (1, .int (nI fam)), (2, .int (nI g)), (3, .int lp)]) hx hb dX3_endsUnpinned_56 hl (k := 1) rfl (inc_1 _) (by decide) rfl (fun ls hl => ?_)
          refine lv_goto (tgt := 3) hx hb dX3_endsUnpinned_59 (by decide) ?_
          exact hnext _ _ _ ⟨rfl, rfl, lv_sub hl [0, 2, 3, 4, 5] rfl, (by intro j hj; rcases Nat.lt_succ_iff_lt_or_eq.mp hj with q | rfl; exact hin j q; intro h8; first | exact hm14 h8.1 | exact h8.2.1 c30 | exact c41 h8.2.2.1 | exact h8.2.2.2 c51)⟩
        · skip
          refine lv_aload hx hb dX3_endsUnpinned_33 (lv_at hl 0 rfl) ?_
          refine lv_iload_n hx hb dX3_endsUnpinned_35 rfl (lv_at hl 4 rfl) ?_
          refine lv_iconst (v := nI 1) hx hb dX3_endsUnpinned_36 (by decide) ?_
          refine lv_iadd hx hb dX3_endsUnpinned_37 ?_
          rw [nI_add]
          refine vp_callSi (va_runV (As := [.int (nI (g + 1))]) (rest := []) ⟨hx, hb, hml, hown, hts⟩ (conX0_holds l D T (ad (4 + i)) (ad (13 + i)) (F i) (nI (g + 1))) (cwV 1 hts gX3_endsUnpinned_X0_holds rfl rfl rfl (by decide +kernel) ⟨Nat.le_of_ble_eq_true rfl, Nat.le_of_ble_eq_true rfl⟩) (preV hK (hw.g i (by omega)) rfl ⟨(hw.gs i (by omega)).1, (hw.gs i (by omega)).2.1, (hw.gs i (by omega)).2.2⟩) rfl rfl hl.1 rfl (lv_room (Nat.le_of_ble_eq_true rfl)) dX3_endsUnpinned_38 ⟨Nat.le_of_ble_eq_true rfl, Nat.le_of_ble_eq_true rfl⟩).run (fun r3 hr3 => ?_)
          rw [hr3]
          refine lv_if_ne (tgt := 56) hx hb dX3_endsUnpinned_41 (by decide) (fun c41 => ?_) (fun c41 => ?_)
          · skip
            refine lv_iinc (v := nI (i + 1)) (lv' := [(4, .int (nI (i + 1))), (5, .ref (ad (4 + i))), (0, .ref (ad 0)), (1, .int (nI fam)), (2, .int (nI g)), (3, .int lp)]) hx hb dX3_endsUnpinned_56 hl (k := 1) rfl (inc_1 _) (by decide) rfl (fun ls hl => ?_)
            refine lv_goto (tgt := 3) hx hb dX3_endsUnpinned_59 (by decide) ?_
            exact hnext _ _ _ ⟨rfl, rfl, lv_sub hl [0, 2, 3, 4, 5] rfl, (by intro j hj; rcases Nat.lt_succ_iff_lt_or_eq.mp hj with q | rfl; exact hin j q; intro h8; first | exact hm14 h8.1 | exact h8.2.1 c30 | exact c41 h8.2.2.1 | exact h8.2.2.2 c51)⟩
          · skip
            refine lv_aload hx hb dX3_endsUnpinned_44 (lv_at hl 0 rfl) ?_
            refine lv_iload_n hx hb dX3_endsUnpinned_46 rfl (lv_at hl 4 rfl) ?_
            refine vp_callSi (va_runV (As := [.int (nI g)]) (rest := []) ⟨hx, hb, hml, hown, hts⟩ (conX0_firstOfRun l D T (ad (4 + i)) (ad (13 + i)) (F i) g (by omega)) (cwV 1 hts gX3_endsUnpinned_X0_firstOfRun rfl rfl rfl (by decide +kernel) ⟨Nat.le_of_ble_eq_true rfl, Nat.le_of_ble_eq_true rfl⟩) (preV hK (hw.g i (by omega)) rfl ⟨(hw.gs i (by omega)).1, (hw.gs i (by omega)).2.1, (hw.gs i (by omega)).2.2⟩) rfl rfl hl.1 rfl (lv_room (Nat.le_of_ble_eq_true rfl)) dX3_endsUnpinned_47 ⟨Nat.le_of_ble_eq_true rfl, Nat.le_of_ble_eq_true rfl⟩).run (fun r4 hr4 => ?_)
            rw [hr4]
            refine lv_iload_n hx hb dX3_endsUnpinned_50 rfl (lv_at hl 5 rfl) ?_
            refine lv_icmp_le (tgt := 56) hx hb dX3_endsUnpinned_51 (by decide) (fun c51 => ?_) (fun c51 => ?_)
            · skip
              refine lv_iinc (v := nI (i + 1)) (lv' := [(4, .int (nI (i + 1))), (5, .ref (ad (4 + i))), (0, .ref (ad 0)), (1, .int (nI fam)), (2, .int (nI g)), (3, .int lp)]) hx hb dX3_endsUnpinned_56 hl (k := 1) rfl (inc_1 _) (by decide) rfl (fun ls hl => ?_)
              refine lv_goto (tgt := 3) hx hb dX3_endsUnpinned_59 (by decide) ?_
              exact hnext _ _ _ ⟨rfl, rfl, lv_sub hl [0, 2, 3, 4, 5] rfl, (by intro j hj; rcases Nat.lt_succ_iff_lt_or_eq.mp hj with q | rfl; exact hin j q; intro h8; first | exact hm14 h8.1 | exact h8.2.1 c30 | exact c41 h8.2.2.1 | exact h8.2.2.2 c51)⟩
            · skip
              refine lv_iconst (v := nI 1) hx hb dX3_endsUnpinned_54 (by decide) ?_
              exact W.zret (v := nI 1) hx hb hr (rfl) (fun t ht _ => ⟨nI 1, rfl, by exact (epZ_y (by omega) ⟨hm14, c30, c41, c51⟩).symm, ht⟩) (fun q hq => absurd hq List.not_mem_nil) dX3_endsUnpinned_55
      · skip
        rw [memN_f hm14]
        refine W.eq (g2 := F0 m 17 ls [.null]) rfl ?_
        refine lv_astoreN (lv' := [(5, .null), (4, .int (nI i)), (0, .ref (ad 0)), (1, .int (nI fam)), (2, .int (nI g)), (3, .int lp)]) hx hb dX3_endsUnpinned_17 hl (by decide) rfl (fun ls hl => ?_)
        refine lv_aloadN hx hb dX3_endsUnpinned_19 (lv_at hl 0 rfl) ?_
        refine lv_ifnullN (tgt := 56) hx hb dX3_endsUnpinned_21 (by decide) ?_
        refine lv_iinc (v := nI (i + 1)) (lv' := [(4, .int (nI (i + 1))), (5, .null), (0, .ref (ad 0)), (1, .int (nI fam)), (2, .int (nI g)), (3, .int lp)]) hx hb dX3_endsUnpinned_56 hl (k := 1) rfl (inc_1 _) (by decide) rfl (fun ls hl => ?_)
        refine lv_goto (tgt := 3) hx hb dX3_endsUnpinned_59 (by decide) ?_
        exact hnext _ _ _ ⟨rfl, rfl, lv_sub hl [0, 2, 3, 4, 5] rfl, (by intro j hj; rcases Nat.lt_succ_iff_lt_or_eq.mp hj with q | rfl; exact hin j q; intro h8; first | exact hm14 h8.1 | exact h8.2.1 c30 | exact c41 h8.2.2.1 | exact h8.2.2.2 c51)⟩
  · skip
    intro H locs ls hin9
    obtain ⟨rfl, rfl, hl, hin⟩ := hin9
    refine lv_iload hx hb dX3_endsUnpinned_3 (lv_at hl 0 rfl) ?_
    refine lv_bipush (v := nI 8) hx hb dX3_endsUnpinned_5 (by decide) ?_
    refine lv_icmp_ge (tgt := 62) hx hb dX3_endsUnpinned_7 (by decide) (fun c7 => ?_) (fun c7 => ?_)
    · skip
      have c7 : 8 ≤ 8 := (nc_le (a := 8) (b := 8) (by omega) (by omega)).mp c7
      refine lv_iconst (v := nI 0) hx hb dX3_endsUnpinned_62 (by decide) ?_
      exact W.zret (v := nI 0) hx hb hr (rfl) (fun t ht _ => ⟨nI 0, rfl, by exact (epZ_n hin).symm, ht⟩) (fun q hq => absurd hq List.not_mem_nil) dX3_endsUnpinned_63
    · skip
      have c7 : ¬ (8 ≤ 8) := fun q9 => c7 ((nc_le (a := 8) (b := 8) (by omega) (by omega)).mpr q9)
      omega

set_option maxHeartbeats 4000000 in
set_option maxRecDepth 100000 in
theorem conX3_countPins (l : Launch) (D : va_G) (T : Nat → ClassId) (ad : Nat → Nat) (F V : Nat → Nat → Int32) (sr : SRs) (C : Nat → Int32) (fam : Nat) (hf : fam ≤ 255) : Met l yX3_countPins wsX3_countPins ({ frames := 3, cells := 0, slots := 0, locals := 68 }) (cP D T [.ref (ad 0), .int (nI fam)] (fun H => PLW D T ad F V sr C H)) (vp_Si (fun r => r = (cpS F fam 201).1)) 0 0 (fun _ => False) := by
  refine Met.ofW (cc := cX3_countPins) (maxL := 5) (ret := (some .int)) (by decide) rfl ?_
  intro p e s m args below meth c s₁ B hml hv9
  obtain ⟨rfl, hK, hw⟩ := hv9
  have hx := B.exec
  have hb := B.bytes
  have hr := B.returns
  have hts := atoms_spec (ws := wsX3_countPins) B.pre
  have hown : s.vm.findClass RX3 = some m.cls := findClass_of_methodNamed B.named
  have hlocks := B.notSynchronized
  have hl := lv_entry ([.ref (ad 0), .int (nI fam)]) (n := 5) (Nat.le_of_ble_eq_true rfl)
  rw [lg_entry_eq]
  generalize (lg_sl ([.ref (ad 0), .int (nI fam)]) ++ List.replicate (5 - (lg_sl ([.ref (ad 0), .int (nI fam)])).length) Slot.unset).toArray = ls at hl ⊢
  have hl : lv_has ls 5 [(0, .ref (ad 0)), (1, .int (nI fam))] := hl
  refine lv_iconst (v := nI 0) hx hb dX3_countPins_0 (by decide) ?_
  refine lv_istore_n (lv' := [(2, .int (nI 0)), (0, .ref (ad 0)), (1, .int (nI fam))]) hx hb dX3_countPins_1 rfl hl (by decide) rfl (fun ls hl => ?_)
  refine lv_iconst (v := (-1)) hx hb dX3_countPins_2 (by decide) ?_
  refine lv_istore_n (lv' := [(3, .int (-1)), (2, .int (nI 0)), (0, .ref (ad 0)), (1, .int (nI fam))]) hx hb dX3_countPins_3 rfl hl (by decide) rfl (fun ls hl => ?_)
  refine lv_iconst (v := nI 0) hx hb dX3_countPins_4 (by decide) ?_
  refine lv_istore (lv' := [(4, .int (nI 0)), (3, .int (-1)), (2, .int (nI 0)), (0, .ref (ad 0)), (1, .int (nI fam))]) hx hb dX3_countPins_5 hl (by decide) rfl (fun ls hl => ?_)
  refine q_for (fun (i : Nat) (H : Heap) (locs : List Loc) (ls : Array Slot) => H = s.heap ∧ locs = [] ∧ lv_has ls 5 [(4, .int (nI i)), (3, .int ((cpS F fam i).2)), (2, .int ((cpS F fam i).1)), (0, .ref (ad 0)), (1, .int (nI fam))]) (N := 201) 0 (by omega) ?_ ?_ ?_
  · skip
    have e1 : (-1) = (cpS F fam 0).2 := by rfl
    have e2 : nI 0 = (cpS F fam 0).1 := by rfl
    exact ⟨rfl, rfl, lv_sub (lv_ex (lv_ex hl 1 rfl (congrArg Value.int e1)) 2 rfl (congrArg Value.int e2)) [0, 1, 2, 3, 4] rfl⟩
  · skip
    intro i H locs ls hi9 hin9 hnext
    obtain ⟨rfl, rfl, hl⟩ := hin9
    refine lv_iload hx hb dX3_countPins_7 (lv_at hl 0 rfl) ?_
    refine lv_sipush (v := nI 201) hx hb dX3_countPins_9 (by decide) ?_
    refine lv_icmp_ge (tgt := 38) hx hb dX3_countPins_12 (by decide) (fun c12 => ?_) (fun c12 => ?_)
    · skip
      have c12 : 201 ≤ i := (nc_le (a := 201) (b := i) (by omega) (by omega)).mp c12
      omega
    · skip
      have c12 : ¬ (201 ≤ i) := fun q9 => c12 ((nc_le (a := 201) (b := i) (by omega) (by omega)).mpr q9)
      refine lv_aload_n hx hb dX3_countPins_15 rfl (lv_at hl 3 rfl) ?_
      refine lv_iload_n hx hb dX3_countPins_16 rfl (lv_at hl 4 rfl) ?_
      refine lv_iload hx hb dX3_countPins_17 (lv_at hl 0 rfl) ?_
      refine lv_iload_n hx hb dX3_countPins_19 rfl (lv_at hl 1 rfl) ?_
      refine vp_callSi (va_runV (As := [.int (nI fam), .int (nI i), .int ((cpS F fam i).2)]) (rest := []) ⟨hx, hb, hml, hown, hts⟩ (conX3_endsUnpinned l D T ad F V sr C fam i ((cpS F fam i).2) (by omega) (by omega)) (cwV 3 hts gX3_countPins_X3_endsUnpinned rfl rfl rfl (by decide +kernel) ⟨Nat.le_of_ble_eq_true rfl, Nat.le_of_ble_eq_true rfl⟩) (preV hK hw.o rfl hw) rfl rfl hl.1 rfl (lv_room (Nat.le_of_ble_eq_true rfl)) dX3_countPins_20 ⟨Nat.le_of_ble_eq_true rfl, Nat.le_of_ble_eq_true rfl⟩).run (fun r3 hr3 => ?_)
      rw [hr3]
      refine lv_if_eq (tgt := 32) hx hb dX3_countPins_23 (by decide) (fun c23 => ?_) (fun c23 => ?_)
      · skip
        refine lv_iinc (v := nI (i + 1)) (lv' := [(4, .int (nI (i + 1))), (3, .int ((cpS F fam i).2)), (2, .int ((cpS F fam i).1)), (0, .ref (ad 0)), (1, .int (nI fam))]) hx hb dX3_countPins_32 hl (k := 0) rfl (inc_1 _) (by decide) rfl (fun ls hl => ?_)
        refine lv_goto (tgt := 7) hx hb dX3_countPins_35 (by decide) ?_
        have e4 : (cpS F fam i).2 = (cpS F fam (i + 1)).2 := by first | (rw [cpS_s, if_pos c23]; done) | (rw [cpS_s, if_neg c23]; done)
        have e5 : (cpS F fam i).1 = (cpS F fam (i + 1)).1 := by first | (rw [cpS_s, if_pos c23]; done) | (rw [cpS_s, if_neg c23]; done)
        exact hnext _ _ _ ⟨rfl, rfl, lv_sub (lv_ex (lv_ex hl 1 rfl (congrArg Value.int e4)) 2 rfl (congrArg Value.int e5)) [0, 1, 2, 3, 4] rfl⟩
      · skip
        refine lv_iinc (v := ((cpS F fam i).1) + 1) (lv' := [(2, .int (((cpS F fam i).1) + 1)), (4, .int (nI i)), (3, .int ((cpS F fam i).2)), (0, .ref (ad 0)), (1, .int (nI fam))]) hx hb dX3_countPins_26 hl (k := 2) rfl (rfl) (by decide) rfl (fun ls hl => ?_)
        refine lv_iload hx hb dX3_countPins_29 (lv_at hl 1 rfl) ?_
        refine lv_istore_n (lv' := [(3, .int (nI i)), (2, .int (((cpS F fam i).1) + 1)), (4, .int (nI i)), (0, .ref (ad 0)), (1, .int (nI fam))]) hx hb dX3_countPins_31 rfl hl (by decide) rfl (fun ls hl => ?_)
        refine lv_iinc (v := nI (i + 1)) (lv' := [(4, .int (nI (i + 1))), (3, .int (nI i)), (2, .int (((cpS F fam i).1) + 1)), (0, .ref (ad 0)), (1, .int (nI fam))]) hx hb dX3_countPins_32 hl (k := 2) rfl (inc_1 _) (by decide) rfl (fun ls hl => ?_)
        refine lv_goto (tgt := 7) hx hb dX3_countPins_35 (by decide) ?_
        have e6 : nI i = (cpS F fam (i + 1)).2 := by first | (rw [cpS_s, if_pos c23]; done) | (rw [cpS_s, if_neg c23]; done)
        have e7 : ((cpS F fam i).1) + 1 = (cpS F fam (i + 1)).1 := by first | (rw [cpS_s, if_pos c23]; done) | (rw [cpS_s, if_neg c23]; done)
        exact hnext _ _ _ ⟨rfl, rfl, lv_sub (lv_ex (lv_ex hl 1 rfl (congrArg Value.int e6)) 2 rfl (congrArg Value.int e7)) [0, 1, 2, 3, 4] rfl⟩
  · skip
    intro H locs ls hin9
    obtain ⟨rfl, rfl, hl⟩ := hin9
    refine lv_iload hx hb dX3_countPins_7 (lv_at hl 0 rfl) ?_
    refine lv_sipush (v := nI 201) hx hb dX3_countPins_9 (by decide) ?_
    refine lv_icmp_ge (tgt := 38) hx hb dX3_countPins_12 (by decide) (fun c12 => ?_) (fun c12 => ?_)
    · skip
      have c12 : 201 ≤ 201 := (nc_le (a := 201) (b := 201) (by omega) (by omega)).mp c12
      refine lv_iload_n hx hb dX3_countPins_38 rfl (lv_at hl 2 rfl) ?_
      exact W.iret (v := (cpS F fam 201).1) hx hb hr (fun t ht _ => ⟨(cpS F fam 201).1, rfl, by rfl, ht⟩) (fun q hq => absurd hq List.not_mem_nil) dX3_countPins_39
    · skip
      have c12 : ¬ (201 ≤ 201) := fun q9 => c12 ((nc_le (a := 201) (b := 201) (by omega) (by omega)).mpr q9)
      omega

set_option maxHeartbeats 4000000 in
set_option maxRecDepth 100000 in
theorem conX3_apart (l : Launch) (D : va_G) (T : Nat → ClassId) (ad : Nat → Nat) (F V : Nat → Nat → Int32) (sr : SRs) (C : Nat → Int32) (fam : Nat) (hf : fam ≤ 255) : Met l yX3_apart wsX3_apart ({ frames := 4, cells := 0, slots := 0, locals := 92 }) (cP D T [.ref (ad 0), .int (nI fam)] (fun H => PLW D T ad F V sr C H)) (vp_Si (fun r => r = (cpS F fam 201).1)) 0 0 (fun _ => False) := by
  refine Met.ofW (cc := cX3_apart) (maxL := 2) (ret := (some .int)) (by decide) rfl ?_
  intro p e s m args below meth c s₁ B hml hv9
  obtain ⟨rfl, hK, hw⟩ := hv9
  have hx := B.exec
  have hb := B.bytes
  have hr := B.returns
  have hts := atoms_spec (ws := wsX3_apart) B.pre
  have hown : s.vm.findClass RX3 = some m.cls := findClass_of_methodNamed B.named
  have hlocks := B.notSynchronized
  have hl := lv_entry ([.ref (ad 0), .int (nI fam)]) (n := 2) (Nat.le_of_ble_eq_true rfl)
  rw [lg_entry_eq]
  generalize (lg_sl ([.ref (ad 0), .int (nI fam)]) ++ List.replicate (2 - (lg_sl ([.ref (ad 0), .int (nI fam)])).length) Slot.unset).toArray = ls at hl ⊢
  have hl : lv_has ls 2 [(0, .ref (ad 0)), (1, .int (nI fam))] := hl
  refine lv_iload_n hx hb dX3_apart_0 rfl (lv_at hl 1 rfl) ?_
  refine va_csv (va_runS (As := [.int (nI fam)]) (rest := []) ⟨hx, hb, hml, hown, hts⟩ (conX3_checkFamily l D T fam (by omega)) (va_cwS 1 hts gX3_apart_X3_checkFamily rfl rfl rfl (by decide +kernel) ⟨Nat.le_of_ble_eq_true rfl, Nat.le_of_ble_eq_true rfl⟩) (preS hK trivial) rfl rfl hl.1 rfl (lv_room (Nat.le_of_ble_eq_true rfl)) dX3_apart_1 ⟨Nat.le_of_ble_eq_true rfl, Nat.le_of_ble_eq_true rfl⟩).run (fun _ => ?_)
  refine lv_aload_n hx hb dX3_apart_4 rfl (lv_at hl 0 rfl) ?_
  refine lv_iload_n hx hb dX3_apart_5 rfl (lv_at hl 1 rfl) ?_
  refine vp_callSi (va_runV (As := [.int (nI fam)]) (rest := []) ⟨hx, hb, hml, hown, hts⟩ (conX3_countPins l D T ad F V sr C fam (by omega)) (cwV 1 hts gX3_apart_X3_countPins rfl rfl rfl (by decide +kernel) ⟨Nat.le_of_ble_eq_true rfl, Nat.le_of_ble_eq_true rfl⟩) (preV hK hw.o rfl hw) rfl rfl hl.1 rfl (lv_room (Nat.le_of_ble_eq_true rfl)) dX3_apart_6 ⟨Nat.le_of_ble_eq_true rfl, Nat.le_of_ble_eq_true rfl⟩).run (fun r1 hr1 => ?_)
  rw [hr1]
  exact W.iret (v := (cpS F fam 201).1) hx hb hr (fun t ht _ => ⟨(cpS F fam 201).1, rfl, by rfl, ht⟩) (fun q hq => absurd hq List.not_mem_nil) dX3_apart_9

set_option maxHeartbeats 4000000 in
set_option maxRecDepth 100000 in
theorem conX3_pins (l : Launch) (D : va_G) (T : Nat → ClassId) (ad : Nat → Nat) (F V : Nat → Nat → Int32) (sr : SRs) (C : Nat → Int32) (fam : Nat) (hf : fam ≤ 255) : Met l yX3_pins wsX3_pins ({ frames := 4, cells := 0, slots := 0, locals := 92 }) (cP D T [.ref (ad 0), .int (nI fam)] (fun H => PLW D T ad F V sr C H)) (vp_Si (fun r => r = (cpS F fam 201).1)) 0 0 (fun _ => False) := by
  refine Met.ofW (cc := cX3_pins) (maxL := 2) (ret := (some .int)) (by decide) rfl ?_
  intro p e s m args below meth c s₁ B hml hv9
  obtain ⟨rfl, hK, hw⟩ := hv9
  have hx := B.exec
  have hb := B.bytes
  have hr := B.returns
  have hts := atoms_spec (ws := wsX3_pins) B.pre
  have hown : s.vm.findClass RX3 = some m.cls := findClass_of_methodNamed B.named
  have hlocks := B.notSynchronized
  have hl := lv_entry ([.ref (ad 0), .int (nI fam)]) (n := 2) (Nat.le_of_ble_eq_true rfl)
  rw [lg_entry_eq]
  generalize (lg_sl ([.ref (ad 0), .int (nI fam)]) ++ List.replicate (2 - (lg_sl ([.ref (ad 0), .int (nI fam)])).length) Slot.unset).toArray = ls at hl ⊢
  have hl : lv_has ls 2 [(0, .ref (ad 0)), (1, .int (nI fam))] := hl
  refine lv_iload_n hx hb dX3_pins_0 rfl (lv_at hl 1 rfl) ?_
  refine va_csv (va_runS (As := [.int (nI fam)]) (rest := []) ⟨hx, hb, hml, hown, hts⟩ (conX3_checkFamily l D T fam (by omega)) (va_cwS 1 hts gX3_pins_X3_checkFamily rfl rfl rfl (by decide +kernel) ⟨Nat.le_of_ble_eq_true rfl, Nat.le_of_ble_eq_true rfl⟩) (preS hK trivial) rfl rfl hl.1 rfl (lv_room (Nat.le_of_ble_eq_true rfl)) dX3_pins_1 ⟨Nat.le_of_ble_eq_true rfl, Nat.le_of_ble_eq_true rfl⟩).run (fun _ => ?_)
  refine lv_aload_n hx hb dX3_pins_4 rfl (lv_at hl 0 rfl) ?_
  refine lv_iload_n hx hb dX3_pins_5 rfl (lv_at hl 1 rfl) ?_
  refine vp_callSi (va_runV (As := [.int (nI fam)]) (rest := []) ⟨hx, hb, hml, hown, hts⟩ (conX3_countPins l D T ad F V sr C fam (by omega)) (cwV 1 hts gX3_pins_X3_countPins rfl rfl rfl (by decide +kernel) ⟨Nat.le_of_ble_eq_true rfl, Nat.le_of_ble_eq_true rfl⟩) (preV hK hw.o rfl hw) rfl rfl hl.1 rfl (lv_room (Nat.le_of_ble_eq_true rfl)) dX3_pins_6 ⟨Nat.le_of_ble_eq_true rfl, Nat.le_of_ble_eq_true rfl⟩).run (fun r1 hr1 => ?_)
  rw [hr1]
  exact W.iret (v := (cpS F fam 201).1) hx hb hr (fun t ht _ => ⟨(cpS F fam 201).1, rfl, by rfl, ht⟩) (fun q hq => absurd hq List.not_mem_nil) dX3_pins_9

set_option maxHeartbeats 4000000 in
set_option maxRecDepth 100000 in
theorem conX3_mean (l : Launch) (D : va_G) (T : Nat → ClassId) (ad : Nat → Nat) (F V : Nat → Nat → Int32) (sr : SRs) (C : Nat → Int32) (k : Nat) (hk : k < 5) (j : Nat) (hj : j < 8) : Met l yX3_mean wsX3_mean ({ frames := 2, cells := 0, slots := 0, locals := 44 }) (cP D T [.ref (ad 0), .int (nI k), .int (nI j)] (fun H => PLW D T ad F V sr C H)) (vp_Sd (fun r => r = meaV (aroV (V k) (F j) 100) (lenZ (F j) 100))) 0 0 (fun _ => False) := by
  refine Met.ofW (cc := cX3_mean) (maxL := 6) (ret := (some .double)) (by decide) rfl ?_
  intro p e s m args below meth c s₁ B hml hv9
  obtain ⟨rfl, hK, hw⟩ := hv9
  have hx := B.exec
  have hb := B.bytes
  have hr := B.returns
  have hts := atoms_spec (ws := wsX3_mean) B.pre
  have hown : s.vm.findClass RX3 = some m.cls := findClass_of_methodNamed B.named
  have hlocks := B.notSynchronized
  have hl := lv_entry ([.ref (ad 0), .int (nI k), .int (nI j)]) (n := 6) (Nat.le_of_ble_eq_true rfl)
  rw [lg_entry_eq]
  generalize (lg_sl ([.ref (ad 0), .int (nI k), .int (nI j)]) ++ List.replicate (6 - (lg_sl ([.ref (ad 0), .int (nI k), .int (nI j)])).length) Slot.unset).toArray = ls at hl ⊢
  have hl : lv_has ls 6 [(0, .ref (ad 0)), (1, .int (nI k)), (2, .int (nI j))] := hl
  refine lv_aload_n hx hb dX3_mean_0 rfl (lv_at hl 0 rfl) ?_
  refine lv_iload_n hx hb dX3_mean_1 rfl (lv_at hl 1 rfl) ?_
  refine va_csr (ad := fun k => .ref k) (va_runV (As := [.int (nI k)]) (rest := []) ⟨hx, hb, hml, hown, hts⟩ (conX3_functionAt l D T ad F V sr C k (by omega)) (cwV 1 hts gX3_mean_X3_functionAt rfl rfl rfl (by decide +kernel) ⟨Nat.le_of_ble_eq_true rfl, Nat.le_of_ble_eq_true rfl⟩) (preV hK hw.o rfl hw) rfl rfl hl.1 rfl (lv_room (Nat.le_of_ble_eq_true rfl)) dX3_mean_2 ⟨Nat.le_of_ble_eq_true rfl, Nat.le_of_ble_eq_true rfl⟩).run (fun r1 hr1 => ?_)
  subst hr1
  refine lv_astore_n (lv' := [(3, .ref (ad (22 + k))), (0, .ref (ad 0)), (1, .int (nI k)), (2, .int (nI j))]) hx hb dX3_mean_5 rfl hl (by decide) rfl (fun ls hl => ?_)
  refine lv_aload_n hx hb dX3_mean_6 rfl (lv_at hl 1 rfl) ?_
  refine lv_iload_n hx hb dX3_mean_7 rfl (lv_at hl 3 rfl) ?_
  refine va_csr (ad := fun k => .ref k) (va_runV (As := [.int (nI j)]) (rest := []) ⟨hx, hb, hml, hown, hts⟩ (conX3_setAt l D T ad F V sr C j (by omega)) (cwV 1 hts gX3_mean_X3_setAt rfl rfl rfl (by decide +kernel) ⟨Nat.le_of_ble_eq_true rfl, Nat.le_of_ble_eq_true rfl⟩) (preV hK hw.o rfl hw) rfl rfl hl.1 rfl (lv_room (Nat.le_of_ble_eq_true rfl)) dX3_mean_8 ⟨Nat.le_of_ble_eq_true rfl, Nat.le_of_ble_eq_true rfl⟩).run (fun r2 hr2 => ?_)
  subst hr2
  refine lv_astore (lv' := [(4, .ref (ad (4 + j))), (3, .ref (ad (22 + k))), (0, .ref (ad 0)), (1, .int (nI k)), (2, .int (nI j))]) hx hb dX3_mean_11 hl (by decide) rfl (fun ls hl => ?_)
  refine lv_aload hx hb dX3_mean_13 (lv_at hl 0 rfl) ?_
  refine vp_callSi (va_runV (As := []) (rest := []) ⟨hx, hb, hml, hown, hts⟩ (conX0_length l D T (ad (4 + j)) (ad (13 + j)) (F j)) (cwV 0 hts gX3_mean_X0_length rfl rfl rfl (by decide +kernel) ⟨Nat.le_of_ble_eq_true rfl, Nat.le_of_ble_eq_true rfl⟩) (preV hK (hw.g j (by omega)) rfl ⟨(hw.gs j (by omega)).1, (hw.gs j (by omega)).2.1, (hw.gs j (by omega)).2.2⟩) rfl rfl hl.1 rfl (lv_room (Nat.le_of_ble_eq_true rfl)) dX3_mean_15 ⟨Nat.le_of_ble_eq_true rfl, Nat.le_of_ble_eq_true rfl⟩).run (fun r3 hr3 => ?_)
  rw [hr3]
  refine lv_istore (lv' := [(5, .int (lenZ (F j) 100)), (4, .ref (ad (4 + j))), (3, .ref (ad (22 + k))), (0, .ref (ad 0)), (1, .int (nI k)), (2, .int (nI j))]) hx hb dX3_mean_18 hl (by decide) rfl (fun ls hl => ?_)
  refine lv_iload hx hb dX3_mean_20 (lv_at hl 0 rfl) ?_
  refine lv_if_ne (tgt := 27) hx hb dX3_mean_22 (by decide) (fun c22 => ?_) (fun c22 => ?_)
  · skip
    refine lv_aload_n hx hb dX3_mean_27 rfl (lv_at hl 2 rfl) ?_
    refine lv_aload hx hb dX3_mean_28 (lv_at hl 1 rfl) ?_
    refine vp_callSi (va_runS (As := [.ref (ad (22 + k)), .ref (ad (4 + j))]) (rest := []) ⟨hx, hb, hml, hown, hts⟩ (conX3_areaOver l D T ad F V sr C k j (by omega) (by omega)) (va_cwS 2 hts gX3_mean_X3_areaOver rfl rfl rfl (by decide +kernel) ⟨Nat.le_of_ble_eq_true rfl, Nat.le_of_ble_eq_true rfl⟩) (preS hK hw) rfl rfl hl.1 rfl (lv_room (Nat.le_of_ble_eq_true rfl)) dX3_mean_30 ⟨Nat.le_of_ble_eq_true rfl, Nat.le_of_ble_eq_true rfl⟩).run (fun r4 hr4 => ?_)
    rw [hr4]
    refine lv_i2d hx hb dX3_mean_33 ?_
    refine lv_iload hx hb dX3_mean_34 (lv_at hl 0 rfl) ?_
    refine lv_i2d hx hb dX3_mean_36 ?_
    refine lv_ddiv hx hb dX3_mean_37 (mea_nn c22) ?_
    exact W.dret (v := FP.ddiv (FP.i2d (aroV (V k) (F j) 100)) (FP.i2d (lenZ (F j) 100))) hx hb hr (fun t ht _ => ⟨FP.ddiv (FP.i2d (aroV (V k) (F j) 100)) (FP.i2d (lenZ (F j) 100)), rfl, by first | exact (if_pos c22).symm | exact (if_neg c22).symm, ht⟩) (fun q hq => absurd hq List.not_mem_nil) dX3_mean_38
  · skip
    refine lv_dconst0 hx hb dX3_mean_25 ?_
    exact W.dret (v := FP.dconst0) hx hb hr (fun t ht _ => ⟨FP.dconst0, rfl, by first | exact (if_pos c22).symm | exact (if_neg c22).symm, ht⟩) (fun q hq => absurd hq List.not_mem_nil) dX3_mean_26
