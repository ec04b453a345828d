set_option maxHeartbeats 4000000 in
set_option maxRecDepth 100000 in
theorem conX3_clear (l : Launch) (D : va_G) (T : Nat → ClassId) (ad : Nat → Nat) (F V : Nat → Nat → Int32) (sr : SRs) (C : Nat → Int32) (k j : Nat) (hk : k < 8) (hj : j < 8) : Met l yX3_clear wsX3_clear ({ frames := 2, cells := 0, slots := 0, locals := 45 }) (cP D T [.ref (ad 0), .int (nI k), .int (nI j)] (fun H => PLW D T ad F V sr C H)) (vp_Si (fun r => (r = nI 1000 ∧ ∀ i : Nat, i < 101 → ¬ lieA (F k) (F j) (nI 2 * -nI i) ∧ ¬ lieA (F k) (F j) (nI 2 * nI i)) ∨ (∃ n : Nat, n < 101 ∧ (∀ i : Nat, i < n → ¬ lieA (F k) (F j) (nI 2 * -nI i) ∧ ¬ lieA (F k) (F j) (nI 2 * nI i)) ∧ ((r = -nI n ∧ lieA (F k) (F j) (nI 2 * -nI n)) ∨ (r = nI n ∧ ¬ lieA (F k) (F j) (nI 2 * -nI n) ∧ lieA (F k) (F j) (nI 2 * nI n)))))) 0 0 (fun _ => False) := by
  refine Met.ofW (cc := cX3_clear) (maxL := 6) (ret := (some .int)) (by decide) rfl ?_
  intro p e s m args below meth c s₁ B hml hv9
  obtain ⟨rfl, hK, hw⟩ := hv9
  have hx := B.exec
  have hb := B.bytes
  have hr := B.returns
  have hts := atoms_spec (ws := wsX3_clear) B.pre
  have hown : s.vm.findClass RX3 = some m.cls := findClass_of_methodNamed B.named
  have hlocks := B.notSynchronized
  have hl := lv_entry ([.ref (ad 0), .int (nI k), .int (nI j)]) (n := 6) (Nat.le_of_ble_eq_true rfl)
  rw [lg_entry_eq]
  generalize (lg_sl ([.ref (ad 0), .int (nI k), .int (nI j)]) ++ List.replicate (6 - (lg_sl ([.ref (ad 0), .int (nI k), .int (nI j)])).length) Slot.unset).toArray = ls at hl ⊢
  have hl : lv_has ls 6 [(0, .ref (ad 0)), (1, .int (nI k)), (2, .int (nI j))] := hl
  refine lv_aload_n hx hb dX3_clear_0 rfl (lv_at hl 0 rfl) ?_
  refine lv_iload_n hx hb dX3_clear_1 rfl (lv_at hl 1 rfl) ?_
  refine va_csr (ad := fun k => .ref k) (va_runV (As := [.int (nI k)]) (rest := []) ⟨hx, hb, hml, hown, hts⟩ (conX3_setAt l D T ad F V sr C k (by omega)) (cwV 1 hts gX3_clear_X3_setAt rfl rfl rfl (by decide +kernel) ⟨Nat.le_of_ble_eq_true rfl, Nat.le_of_ble_eq_true rfl⟩) (preV hK hw.o rfl hw) rfl rfl hl.1 rfl (lv_room (Nat.le_of_ble_eq_true rfl)) dX3_clear_2 ⟨Nat.le_of_ble_eq_true rfl, Nat.le_of_ble_eq_true rfl⟩).run (fun r1 hr1 => ?_)
  subst hr1
  refine lv_astore_n (lv' := [(3, .ref (ad (4 + k))), (0, .ref (ad 0)), (1, .int (nI k)), (2, .int (nI j))]) hx hb dX3_clear_5 rfl hl (by decide) rfl (fun ls hl => ?_)
  refine lv_aload_n hx hb dX3_clear_6 rfl (lv_at hl 1 rfl) ?_
  refine lv_iload_n hx hb dX3_clear_7 rfl (lv_at hl 3 rfl) ?_
  refine va_csr (ad := fun k => .ref k) (va_runV (As := [.int (nI j)]) (rest := []) ⟨hx, hb, hml, hown, hts⟩ (conX3_setAt l D T ad F V sr C j (by omega)) (cwV 1 hts gX3_clear_X3_setAt rfl rfl rfl (by decide +kernel) ⟨Nat.le_of_ble_eq_true rfl, Nat.le_of_ble_eq_true rfl⟩) (preV hK hw.o rfl hw) rfl rfl hl.1 rfl (lv_room (Nat.le_of_ble_eq_true rfl)) dX3_clear_8 ⟨Nat.le_of_ble_eq_true rfl, Nat.le_of_ble_eq_true rfl⟩).run (fun r2 hr2 => ?_)
  subst hr2
  refine lv_astore (lv' := [(4, .ref (ad (4 + j))), (3, .ref (ad (4 + k))), (0, .ref (ad 0)), (1, .int (nI k)), (2, .int (nI j))]) hx hb dX3_clear_11 hl (by decide) rfl (fun ls hl => ?_)
  refine lv_iconst (v := nI 0) hx hb dX3_clear_13 (by decide) ?_
  refine lv_istore (lv' := [(5, .int (nI 0)), (4, .ref (ad (4 + j))), (3, .ref (ad (4 + k))), (0, .ref (ad 0)), (1, .int (nI k)), (2, .int (nI j))]) hx hb dX3_clear_14 hl (by decide) rfl (fun ls hl => ?_)
  refine q_for (fun (i : Nat) (H : Heap) (locs : List Loc) (ls : Array Slot) => H = s.heap ∧ locs = [] ∧ lv_has ls 6 [(5, .int (nI i)), (4, .ref (ad (4 + j))), (3, .ref (ad (4 + k))), (0, .ref (ad 0)), (1, .int (nI k)), (2, .int (nI j))] ∧ ∀ i9 : Nat, i9 < i → ¬ lieA (F k) (F j) (nI 2 * -nI i9) ∧ ¬ lieA (F k) (F j) (nI 2 * nI i9)) (N := 101) 0 (by omega) ?_ ?_ ?_
  · skip
    exact ⟨rfl, rfl, lv_sub hl [0, 1, 2, 3, 4, 5] rfl, (by intro j hj; omega)⟩
  · skip
    intro i H locs ls hi9 hin9 hnext
    obtain ⟨rfl, rfl, hl, hin⟩ := hin9
    refine lv_iload hx hb dX3_clear_16 (lv_at hl 0 rfl) ?_
    refine lv_bipush (v := nI 100) hx hb dX3_clear_18 (by decide) ?_
    refine lv_icmp_gt (tgt := 59) hx hb dX3_clear_20 (by decide) (fun c20 => ?_) (fun c20 => ?_)
    · skip
      have c20 : 100 < i := (nc_lt (a := 100) (b := i) (by omega) (by omega)).mp c20
      omega
    · skip
      have c20 : ¬ (100 < i) := fun q9 => c20 ((nc_lt (a := 100) (b := i) (by omega) (by omega)).mpr q9)
      refine lv_aload_n hx hb dX3_clear_23 rfl (lv_at hl 2 rfl) ?_
      refine lv_iload hx hb dX3_clear_24 (lv_at hl 0 rfl) ?_
      refine lv_ineg hx hb dX3_clear_26 ?_
      refine lv_aload hx hb dX3_clear_27 (lv_at hl 1 rfl) ?_
      refine vp_callSi (va_runS (As := [.ref (ad (4 + k)), .int (-(nI i)), .ref (ad (4 + j))]) (rest := []) ⟨hx, hb, hml, hown, hts⟩ (conX3_canLie l D T ad F V sr C k j (-(nI i)) (by omega) (by omega)) (va_cwS 3 hts gX3_clear_X3_canLie rfl rfl rfl (by decide +kernel) ⟨Nat.le_of_ble_eq_true rfl, Nat.le_of_ble_eq_true rfl⟩) (preS hK hw) rfl rfl hl.1 rfl (lv_room (Nat.le_of_ble_eq_true rfl)) dX3_clear_29 ⟨Nat.le_of_ble_eq_true rfl, Nat.le_of_ble_eq_true rfl⟩).run (fun r3 hr3 => ?_)
      have hlA := lie_or hr3
      refine lv_if_eq (tgt := 39) hx hb dX3_clear_32 (by decide) (fun c32 => ?_) (fun c32 => ?_)
      · skip
        refine lv_aload_n hx hb dX3_clear_39 rfl (lv_at hl 2 rfl) ?_
        refine lv_iload hx hb dX3_clear_40 (lv_at hl 0 rfl) ?_
        refine lv_aload hx hb dX3_clear_42 (lv_at hl 1 rfl) ?_
        refine vp_callSi (va_runS (As := [.ref (ad (4 + k)), .int (nI i), .ref (ad (4 + j))]) (rest := []) ⟨hx, hb, hml, hown, hts⟩ (conX3_canLie l D T ad F V sr C k j (nI i) (by omega) (by omega)) (va_cwS 3 hts gX3_clear_X3_canLie rfl rfl rfl (by decide +kernel) ⟨Nat.le_of_ble_eq_true rfl, Nat.le_of_ble_eq_true rfl⟩) (preS hK hw) rfl rfl hl.1 rfl (lv_room (Nat.le_of_ble_eq_true rfl)) dX3_clear_44 ⟨Nat.le_of_ble_eq_true rfl, Nat.le_of_ble_eq_true rfl⟩).run (fun r4 hr4 => ?_)
        have hlB := lie_or hr4
        refine lv_if_eq (tgt := 53) hx hb dX3_clear_47 (by decide) (fun c47 => ?_) (fun c47 => ?_)
        · skip
          refine lv_iinc (v := nI (i + 1)) (lv' := [(5, .int (nI (i + 1))), (4, .ref (ad (4 + j))), (3, .ref (ad (4 + k))), (0, .ref (ad 0)), (1, .int (nI k)), (2, .int (nI j))]) hx hb dX3_clear_53 hl (k := 0) rfl (inc_1 _) (by decide) rfl (fun ls hl => ?_)
          refine lv_goto (tgt := 16) hx hb dX3_clear_56 (by decide) ?_
          exact hnext _ _ _ ⟨rfl, rfl, lv_sub hl [0, 1, 2, 3, 4, 5] rfl, (by intro i9 hj9; rcases Nat.lt_succ_iff_lt_or_eq.mp hj9 with q | rfl; exact hin i9 q; exact ⟨hlA.1 c32, hlB.1 c47⟩)⟩
        · skip
          refine lv_iload hx hb dX3_clear_50 (lv_at hl 0 rfl) ?_
          exact W.iret (v := nI i) hx hb hr (fun t ht _ => ⟨nI i, rfl, by exact Or.inr ⟨i, by omega, hin, Or.inr ⟨rfl, hlA.1 c32, hlB.2 c47⟩⟩, ht⟩) (fun q hq => absurd hq List.not_mem_nil) dX3_clear_52
      · skip
        refine lv_iload hx hb dX3_clear_35 (lv_at hl 0 rfl) ?_
        refine lv_ineg hx hb dX3_clear_37 ?_
        exact W.iret (v := -(nI i)) hx hb hr (fun t ht _ => ⟨-(nI i), rfl, by exact Or.inr ⟨i, by omega, hin, Or.inl ⟨rfl, hlA.2 c32⟩⟩, ht⟩) (fun q hq => absurd hq List.not_mem_nil) dX3_clear_38
  · skip
    intro H locs ls hin9
    obtain ⟨rfl, rfl, hl, hin⟩ := hin9
    refine lv_iload hx hb dX3_clear_16 (lv_at hl 0 rfl) ?_
    refine lv_bipush (v := nI 100) hx hb dX3_clear_18 (by decide) ?_
    refine lv_icmp_gt (tgt := 59) hx hb dX3_clear_20 (by decide) (fun c20 => ?_) (fun c20 => ?_)
    · skip
      have c20 : 100 < 101 := (nc_lt (a := 100) (b := 101) (by omega) (by omega)).mp c20
      refine lv_sipush (v := nI 1000) hx hb dX3_clear_59 (by decide) ?_
      exact W.iret (v := nI 1000) hx hb hr (fun t ht _ => ⟨nI 1000, rfl, by exact Or.inl ⟨rfl, hin⟩, ht⟩) (fun q hq => absurd hq List.not_mem_nil) dX3_clear_62
    · skip
      have c20 : ¬ (100 < 101) := fun q9 => c20 ((nc_lt (a := 100) (b := 101) (by omega) (by omega)).mpr q9)
      omega

set_option maxHeartbeats 4000000 in
set_option maxRecDepth 100000 in
theorem conX3_move (l : Launch) (D : va_G) (T : Nat → ClassId) (ad : Nat → Nat) (F V : Nat → Nat → Int32) (sr : SRs) (C : Nat → Int32) (k : Nat) (by9 : Int32) (hk : k < 8) (h1 : ¬ by9 < -100) (h2 : by9 ≤ nI 100) : Met l yX3_move wsX3_move ({ frames := 2, cells := 0, slots := 0, locals := 44 }) (cP D T [.ref (ad 0), .int (nI k), .int by9] (fun H => PLW D T ad F V sr C H)) (va_Qi (fun (r : Int32) (_ : Unit) => r = cntZ (movZ (va_up F 8 (copyZ (F 8) (F k) 201)) k (nI 2 * by9) 201) 201) (fun _ t => PLW D T ad (va_up (va_up F 8 (copyZ (F 8) (F k) 201)) k (movZ (va_up F 8 (copyZ (F 8) (F k) 201)) k (nI 2 * by9) 201)) V sr C t.heap) (PLA ad)) 0 0 (PLA ad) := by
  refine Met.ofW (cc := cX3_move) (maxL := 5) (ret := (some .int)) (by decide) rfl ?_
  intro p e s m args below meth c s₁ B hml hv9
  obtain ⟨rfl, hK, hw⟩ := hv9
  have hx := B.exec
  have hb := B.bytes
  have hr := B.returns
  have hts := atoms_spec (ws := wsX3_move) B.pre
  have hown : s.vm.findClass RX3 = some m.cls := findClass_of_methodNamed B.named
  have hlocks := B.notSynchronized
  have hin3 : ∀ w ∈ wsX30, w ∈ wsX3_move := by decide +kernel
  generalize hAe : (PLA ad) = A
  have hA : ∀ i : Nat, i < 37 → A (ad i) := fun i hi => by subst hAe; exact ⟨i, hi, rfl⟩
  have hS : va_S A s.heap s.heap [] := va_S.rf
  have hl := lv_entry ([.ref (ad 0), .int (nI k), .int by9]) (n := 5) (Nat.le_of_ble_eq_true rfl)
  rw [lg_entry_eq]
  generalize (lg_sl ([.ref (ad 0), .int (nI k), .int by9]) ++ List.replicate (5 - (lg_sl ([.ref (ad 0), .int (nI k), .int by9])).length) Slot.unset).toArray = ls at hl ⊢
  have hl : lv_has ls 5 [(0, .ref (ad 0)), (1, .int (nI k)), (2, .int by9)] := hl
  refine lv_aload_n hx hb dX3_move_0 rfl (lv_at hl 0 rfl) ?_
  refine lv_iload_n hx hb dX3_move_1 rfl (lv_at hl 1 rfl) ?_
  refine va_csr (ad := fun k => .ref k) (va_runV (As := [.int (nI k)]) (rest := []) ⟨hx, hb, hml, hown, hts⟩ (conX3_setAt l D T ad F V sr C k (by omega)) (cwV 1 hts gX3_move_X3_setAt rfl rfl rfl (by decide +kernel) ⟨Nat.le_of_ble_eq_true rfl, Nat.le_of_ble_eq_true rfl⟩) (preV hK hw.o rfl hw) rfl rfl hl.1 rfl (lv_room (Nat.le_of_ble_eq_true rfl)) dX3_move_2 ⟨Nat.le_of_ble_eq_true rfl, Nat.le_of_ble_eq_true rfl⟩).run (fun r1 hr1 => ?_)
  subst hr1
  refine lv_astore_n (lv' := [(3, .ref (ad (4 + k))), (0, .ref (ad 0)), (1, .int (nI k)), (2, .int by9)]) hx hb dX3_move_5 rfl hl (by decide) rfl (fun ls hl => ?_)
  refine lv_iload_n hx hb dX3_move_6 rfl (lv_at hl 3 rfl) ?_
  refine va_csv (va_runS (As := [.int by9]) (rest := []) ⟨hx, hb, hml, hown, hts⟩ (conX3_checkMove l D T by9 h1 h2) (va_cwS 1 hts gX3_move_X3_checkMove rfl rfl rfl (by decide +kernel) ⟨Nat.le_of_ble_eq_true rfl, Nat.le_of_ble_eq_true rfl⟩) (preS hK trivial) rfl rfl hl.1 rfl (lv_room (Nat.le_of_ble_eq_true rfl)) dX3_move_7 ⟨Nat.le_of_ble_eq_true rfl, Nat.le_of_ble_eq_true rfl⟩).run (fun _ => ?_)
  refine lv_aload_n hx hb dX3_move_10 rfl (lv_at hl 1 rfl) ?_
  refine q_get (v := .ref (ad (4 + 8))) hx hb hts hin3 hown hK hw.o rfl 2 (by decide) (hts (.fieldLink RX3 22 "PuddingstoneLine" "spareSet" "LPuddingstoneLine$GrainSet;") (by decide +kernel)) (fun _ h9 => h9) rfl dX3_move_11 ?_
  refine lv_aload_n hx hb dX3_move_14 rfl (lv_at hl 0 rfl) ?_
  refine va_callv (va_runV (As := [.ref (ad (4 + k))]) (rest := []) ⟨hx, hb, hml, hown, hts⟩ (conX0_copyFrom l D T (ad (4 + 8)) (ad (13 + 8)) (F 8) (ad (4 + k)) (ad (13 + k)) (F k)) (cwV 1 hts gX3_move_X0_copyFrom rfl rfl rfl (by decide +kernel) ⟨Nat.le_of_ble_eq_true rfl, Nat.le_of_ble_eq_true rfl⟩) (preV hK (hw.g 8 (by omega)) rfl ⟨⟨(hw.gs 8 (by omega)).1, (hw.gs 8 (by omega)).2.1, (hw.gs 8 (by omega)).2.2⟩, ⟨(hw.gs k (by omega)).1, (hw.gs k (by omega)).2.1, (hw.gs k (by omega)).2.2⟩, (hw.1.ne (4 + k) (13 + 8) (by omega) (by omega) (by omega)), (hw.1.ne (13 + k) (13 + 8) (by omega) (by omega) (by omega))⟩) rfl rfl hl.1 rfl (lv_room (Nat.le_of_ble_eq_true rfl)) dX3_move_15 ⟨Nat.le_of_ble_eq_true rfl, Nat.le_of_ble_eq_true rfl⟩) hS (fun q _ h9 => (by have h8 : q = ad (13 + 8) := h9; rw [h8]; exact hA (13 + 8) (by omega))) (fun q h9 => (by have h8 : q = ad (13 + 8) := h9; rw [h8]; exact hA (13 + 8) (by omega))) (fun u t H1 locs1 ht hvm hw9 hB hz1 hk1 hS => ?_)
  try dsimp only at hB
  rw [ht] at hB
  replace hw := hw.setF 8 (by omega) hB (fun q h1 h2 => hk1 q h1 h2)
  refine lv_iconst (v := nI 0) hx hb dX3_move_18 (by decide) ?_
  refine lv_istore (lv' := [(4, .int (nI 0)), (3, .ref (ad (4 + k))), (0, .ref (ad 0)), (1, .int (nI k)), (2, .int by9)]) hx hb dX3_move_19 hl (by decide) rfl (fun ls hl => ?_)
  refine q_for (fun (i : Nat) (H : Heap) (locs : List Loc) (ls : Array Slot) => va_S A s.heap H locs ∧ lv_has ls 5 [(4, .int (nI i)), (3, .ref (ad (4 + k))), (0, .ref (ad 0)), (1, .int (nI k)), (2, .int by9)] ∧ PLW D T ad (va_up (va_up F 8 (copyZ (F 8) (F k) 201)) k (movZ (va_up F 8 (copyZ (F 8) (F k) 201)) k (nI 2 * by9) i)) V sr C H) (N := 201) 0 (by omega) ?_ ?_ ?_
  · skip
    have e2 : va_up F 8 (copyZ (F 8) (F k) 201) = va_up (va_up F 8 (copyZ (F 8) (F k) 201)) k (movZ (va_up F 8 (copyZ (F 8) (F k) 201)) k (nI 2 * by9) 0) := by (rw [movZ_0, va_up_id])
    exact ⟨hS, lv_sub hl [0, 1, 2, 3, 4] rfl, ((e2 ▸ hw) : PLW D T ad (va_up (va_up F 8 (copyZ (F 8) (F k) 201)) k (movZ (va_up F 8 (copyZ (F 8) (F k) 201)) k (nI 2 * by9) 0)) V sr C _)⟩
  · skip
    intro i H locs ls hi9 hin9 hnext
    obtain ⟨hS, hl, hw⟩ := hin9
    refine lv_iload hx hb dX3_move_21 (lv_at hl 0 rfl) ?_
    refine lv_sipush (v := nI 201) hx hb dX3_move_23 (by decide) ?_
    refine lv_icmp_ge (tgt := 54) hx hb dX3_move_26 (by decide) (fun c26 => ?_) (fun c26 => ?_)
    · skip
      have c26 : 201 ≤ i := (nc_le (a := 201) (b := i) (by omega) (by omega)).mp c26
      omega
    · skip
      have c26 : ¬ (201 ≤ i) := fun q9 => c26 ((nc_le (a := 201) (b := i) (by omega) (by omega)).mpr q9)
      refine lv_aload_n hx hb dX3_move_29 rfl (lv_at hl 1 rfl) ?_
      refine lv_iload hx hb dX3_move_30 (lv_at hl 0 rfl) ?_
      refine lv_aload_n hx hb dX3_move_32 rfl (lv_at hl 2 rfl) ?_
      refine q_get (v := .ref (ad (4 + 8))) hx hb hts hin3 hown hK hw.o rfl 2 (by decide) (hts (.fieldLink RX3 22 "PuddingstoneLine" "spareSet" "LPuddingstoneLine$GrainSet;") (by decide +kernel)) (fun _ h9 => h9) rfl dX3_move_33 ?_
      refine lv_iload hx hb dX3_move_36 (lv_at hl 0 rfl) ?_
      refine lv_iconst (v := nI 2) hx hb dX3_move_38 (by decide) ?_
      refine lv_iload_n hx hb dX3_move_39 rfl (lv_at hl 4 rfl) ?_
      refine lv_imul hx hb dX3_move_40 ?_
      refine lv_isub hx hb dX3_move_41 ?_
      refine vp_callSi (va_runV (As := [.int ((nI i) - ((nI 2) * by9))]) (rest := [.int (nI i), .ref (ad (4 + k))]) ⟨hx, hb, hml, hown, hts⟩ (conX0_holds l D T (ad (4 + 8)) (ad (13 + 8)) ((va_up (va_up F 8 (copyZ (F 8) (F k) 201)) k (movZ (va_up F 8 (copyZ (F 8) (F k) 201)) k (nI 2 * by9) i)) 8) ((nI i) - ((nI 2) * by9))) (cwV 1 hts gX3_move_X0_holds rfl rfl rfl (by decide +kernel) ⟨Nat.le_of_ble_eq_true rfl, Nat.le_of_ble_eq_true rfl⟩) (preV hK (hw.g 8 (by omega)) rfl ⟨(hw.gs 8 (by omega)).1, (hw.gs 8 (by omega)).2.1, (hw.gs 8 (by omega)).2.2⟩) rfl rfl hl.1 rfl (lv_room (Nat.le_of_ble_eq_true rfl)) dX3_move_42 ⟨Nat.le_of_ble_eq_true rfl, Nat.le_of_ble_eq_true rfl⟩).run (fun r3 hr3 => ?_)
      subst hr3
      refine va_callv (va_runV (As := [.int (nI i), .int (holdZ ((va_up (va_up F 8 (copyZ (F 8) (F k) 201)) k (movZ (va_up F 8 (copyZ (F 8) (F k) 201)) k (nI 2 * by9) i)) 8) ((nI i) - ((nI 2) * by9)))]) (rest := []) ⟨hx, hb, hml, hown, hts⟩ (conX0_write l D T (ad (4 + k)) (ad (13 + k)) (movZ (va_up F 8 (copyZ (F 8) (F k) 201)) k (nI 2 * by9) i) (nI i) (holdZ ((va_up (va_up F 8 (copyZ (F 8) (F k) 201)) k (movZ (va_up F 8 (copyZ (F 8) (F k) 201)) k (nI 2 * by9) i)) 8) ((nI i) - ((nI 2) * by9))) (nar_holdZ _ _)) (cwV 2 hts gX3_move_X0_write rfl rfl rfl (by decide +kernel) ⟨Nat.le_of_ble_eq_true rfl, Nat.le_of_ble_eq_true rfl⟩) (preV hK (hw.g k (by omega)) rfl ⟨(hw.gsU k (by omega)).1, (hw.gsU k (by omega)).2.1, (hw.gsU k (by omega)).2.2⟩) rfl rfl hl.1 rfl (lv_room (Nat.le_of_ble_eq_true rfl)) dX3_move_45 ⟨Nat.le_of_ble_eq_true rfl, Nat.le_of_ble_eq_true rfl⟩) hS (fun q _ h9 => (by have h8 : q = ad (13 + k) := h9; rw [h8]; exact hA (13 + k) (by omega))) (fun q h9 => (by have h8 : q = ad (13 + k) := h9; rw [h8]; exact hA (13 + k) (by omega))) (fun u t H1 locs1 ht hvm hw9 hB hz1 hk1 hS => ?_)
      try dsimp only at hB
      rw [ht] at hB
      replace hw := hw.setFU k (by omega) hB (fun q h1 h2 => hk1 q h1 h2)
      refine lv_iinc (v := nI (i + 1)) (lv' := [(4, .int (nI (i + 1))), (3, .ref (ad (4 + k))), (0, .ref (ad 0)), (1, .int (nI k)), (2, .int by9)]) hx hb dX3_move_48 hl (k := 0) rfl (inc_1 _) (by decide) rfl (fun ls hl => ?_)
      refine lv_goto (tgt := 21) hx hb dX3_move_51 (by decide) ?_
      have e4 : va_up (va_up F 8 (copyZ (F 8) (F k) 201)) k (wrZ (movZ (va_up F 8 (copyZ (F 8) (F k) 201)) k (nI 2 * by9) i) (nI i) (holdZ ((va_up (va_up F 8 (copyZ (F 8) (F k) 201)) k (movZ (va_up F 8 (copyZ (F 8) (F k) 201)) k (nI 2 * by9) i)) 8) ((nI i) - ((nI 2) * by9)))) = va_up (va_up F 8 (copyZ (F 8) (F k) 201)) k (movZ (va_up F 8 (copyZ (F 8) (F k) 201)) k (nI 2 * by9) (i + 1)) := by (rw [movZ_s])
      exact hnext _ _ _ ⟨hS, lv_sub hl [0, 1, 2, 3, 4] rfl, ((e4 ▸ hw) : PLW D T ad (va_up (va_up F 8 (copyZ (F 8) (F k) 201)) k (movZ (va_up F 8 (copyZ (F 8) (F k) 201)) k (nI 2 * by9) (i + 1))) V sr C _)⟩
  · skip
    intro H locs ls hin9
    obtain ⟨hS, hl, hw⟩ := hin9
    refine lv_iload hx hb dX3_move_21 (lv_at hl 0 rfl) ?_
    refine lv_sipush (v := nI 201) hx hb dX3_move_23 (by decide) ?_
    refine lv_icmp_ge (tgt := 54) hx hb dX3_move_26 (by decide) (fun c26 => ?_) (fun c26 => ?_)
    · skip
      have c26 : 201 ≤ 201 := (nc_le (a := 201) (b := 201) (by omega) (by omega)).mp c26
      refine lv_aload_n hx hb dX3_move_54 rfl (lv_at hl 1 rfl) ?_
      refine vp_callSi (va_runV (As := []) (rest := []) ⟨hx, hb, hml, hown, hts⟩ (conX0_count l D T (ad (4 + k)) (ad (13 + k)) (movZ (va_up F 8 (copyZ (F 8) (F k) 201)) k (nI 2 * by9) 201)) (cwV 0 hts gX3_move_X0_count rfl rfl rfl (by decide +kernel) ⟨Nat.le_of_ble_eq_true rfl, Nat.le_of_ble_eq_true rfl⟩) (preV hK (hw.g k (by omega)) rfl ⟨(hw.gsU k (by omega)).1, (hw.gsU k (by omega)).2.1, (hw.gsU k (by omega)).2.2⟩) rfl rfl hl.1 rfl (lv_room (Nat.le_of_ble_eq_true rfl)) dX3_move_55 ⟨Nat.le_of_ble_eq_true rfl, Nat.le_of_ble_eq_true rfl⟩).run (fun r5 hr5 => ?_)
      subst hr5
      exact W.iret (v := cntZ (movZ (va_up F 8 (copyZ (F 8) (F k) 201)) k (nI 2 * by9) 201) 201) hx hb hr (fun t ht _ => ⟨⟨cntZ (movZ (va_up F 8 (copyZ (F 8) (F k) 201)) k (nI 2 * by9) 201) 201, (), rfl, by rfl, by dsimp only; rw [ht]; exact hw⟩, hS.F ht⟩) hS.2.2 dX3_move_58
    · skip
      have c26 : ¬ (201 ≤ 201) := fun q9 => c26 ((nc_le (a := 201) (b := 201) (by omega) (by omega)).mpr q9)
      omega
