/-! THE MODEL'S METHODS ON ROWS OF 0 AND OF 1 -/
def winM (g a b ee : Nat) : Int32 := if fgN a b ee ≤ g ∧ g < lgN a b ee then nI 1 else nI 0
theorem ite_iff {p q : Prop} [Decidable p] [Decidable q] {x y : Int32} (h : p ↔ q) : (if p then x else y) = if q then x else y := by
  by_cases hp : p
  · rw [if_pos hp, if_pos (h.mp hp)]
  · rw [if_neg hp, if_neg (fun hq => hp (h.mpr hq))]
def cntc (v : Int32) (i : Nat) : Int32 := if v = 0 then nI 0 else nI i
theorem cntc_z : cntc (nI 0) 201 = nI 0 := if_pos rfl
theorem cntc_o : cntc (nI 1) 201 = nI 201 := if_neg (by decide)
theorem cntc_0 (v : Int32) : cntc v 0 = nI 0 := by unfold cntc; split <;> rfl
theorem cntc_sp {v : Int32} {i : Nat} (h : v = 0) : cntc v i + nI 0 = cntc v (i + 1) := by
  unfold cntc
  rw [if_pos h, if_pos h]
  rfl
theorem cntc_sn {v : Int32} {i : Nat} (h : ¬ v = 0) : cntc v i + nI 1 = cntc v (i + 1) := by
  unfold cntc
  rw [if_neg h, if_neg h]
  exact nI_add i 1
set_option maxHeartbeats 4000000 in
set_option maxRecDepth 100000 in
theorem conX4_isWithin (l : Launch) (D : va_G) (T : Nat → ClassId) (g a b ee : Nat) (hg : g < 201) (hab : a ≤ b) (hb9 : b ≤ 100) (he : ee ≤ 3) : Met l yX4_isWithin wsX4_isWithin ({ frames := 1, cells := 0, slots := 0, locals := 22 }) (cP D T [.int (nI g), .int (nI a), .int (nI b), .int (nI ee)] (fun H => True)) (vp_Si (fun r => r = winM g a b ee)) 0 0 (fun _ => False) := by
  refine Met.ofW (cc := cX4_isWithin) (maxL := 6) (ret := (some .boolean)) (by decide) rfl ?_
  intro p e s m args below meth c s₁ B hml hv9
  obtain ⟨rfl, hK, -⟩ := hv9
  have hx := B.exec
  have hb := B.bytes
  have hr := B.returns
  have hts := atoms_spec (ws := wsX4_isWithin) B.pre
  have hown : s.vm.findClass RX4 = some m.cls := findClass_of_methodNamed B.named
  have hlocks := B.notSynchronized
  have hl := lv_entry ([.int (nI g), .int (nI a), .int (nI b), .int (nI ee)]) (n := 6) (Nat.le_of_ble_eq_true rfl)
  rw [lg_entry_eq]
  generalize (lg_sl ([.int (nI g), .int (nI a), .int (nI b), .int (nI ee)]) ++ List.replicate (6 - (lg_sl ([.int (nI g), .int (nI a), .int (nI b), .int (nI ee)])).length) Slot.unset).toArray = ls at hl ⊢
  have hl : lv_has ls 6 [(0, .int (nI g)), (1, .int (nI a)), (2, .int (nI b)), (3, .int (nI ee))] := hl
  refine lv_iload_n hx hb dX4_isWithin_0 rfl (lv_at hl 1 rfl) ?_
  refine lv_iload_n hx hb dX4_isWithin_1 rfl (lv_at hl 2 rfl) ?_
  refine lv_icmp_ne (tgt := 18) hx hb dX4_isWithin_2 (by decide) (fun c2 => ?_) (fun c2 => ?_)
  · skip
    have c2 : ¬ (a = b) := fun q9 => c2 ((nc_eq (a := a) (b := b) (by omega) (by omega)).mpr q9)
    refine lv_iconst (v := nI 2) hx hb dX4_isWithin_18 (by decide) ?_
    refine lv_iload_n hx hb dX4_isWithin_19 rfl (lv_at hl 1 rfl) ?_
    refine lv_imul hx hb dX4_isWithin_20 ?_
    rw [pk_mul]
    refine lv_iload_n hx hb dX4_isWithin_21 rfl (lv_at hl 3 rfl) ?_
    refine lv_iconst (v := nI 2) hx hb dX4_isWithin_22 (by decide) ?_
    refine lv_irem hx hb dX4_isWithin_23 (by decide) ?_
    rw [pk_rem (a := ee) (d := 2) (by omega) (by omega) (by omega)]
    refine lv_iconst (v := nI 1) hx hb dX4_isWithin_24 (by decide) ?_
    refine lv_icmp_ne (tgt := 32) hx hb dX4_isWithin_25 (by decide) (fun c25 => ?_) (fun c25 => ?_)
    · skip
      have c25 : ¬ (ee % 2 = 1) := fun q9 => c25 ((nc_eq (a := ee % 2) (b := 1) (by omega) (by omega)).mpr q9)
      refine lv_iconst (v := nI 1) hx hb dX4_isWithin_32 (by decide) ?_
      refine lv_iadd hx hb dX4_isWithin_33 ?_
      rw [nI_add]
      refine lv_istore (lv' := [(4, .int (nI ((2 * a) + 1))), (0, .int (nI g)), (1, .int (nI a)), (2, .int (nI b)), (3, .int (nI ee))]) hx hb dX4_isWithin_34 hl (by decide) rfl (fun ls hl => ?_)
      refine lv_iconst (v := nI 2) hx hb dX4_isWithin_36 (by decide) ?_
      refine lv_iload_n hx hb dX4_isWithin_37 rfl (lv_at hl 3 rfl) ?_
      refine lv_imul hx hb dX4_isWithin_38 ?_
      rw [pk_mul]
      refine lv_iload_n hx hb dX4_isWithin_39 rfl (lv_at hl 4 rfl) ?_
      refine lv_iconst (v := nI 1) hx hb dX4_isWithin_40 (by decide) ?_
      refine lv_icmp_le (tgt := 48) hx hb dX4_isWithin_41 (by decide) (fun c41 => ?_) (fun c41 => ?_)
      · skip
        have c41 : ee ≤ 1 := (nc_le (a := ee) (b := 1) (by omega) (by omega)).mp c41
        refine lv_iconst (v := nI 1) hx hb dX4_isWithin_48 (by decide) ?_
        refine lv_isub hx hb dX4_isWithin_49 ?_
        rw [pk_sub (a := 2 * b) (b := 1) (by omega)]
        refine lv_istore (lv' := [(5, .int (nI ((2 * b) - 1))), (4, .int (nI ((2 * a) + 1))), (0, .int (nI g)), (1, .int (nI a)), (2, .int (nI b)), (3, .int (nI ee))]) hx hb dX4_isWithin_50 hl (by decide) rfl (fun ls hl => ?_)
        refine lv_iload_n hx hb dX4_isWithin_52 rfl (lv_at hl 2 rfl) ?_
        refine lv_iload hx hb dX4_isWithin_53 (lv_at hl 1 rfl) ?_
        refine lv_iload hx hb dX4_isWithin_55 (lv_at hl 0 rfl) ?_
        refine vp_callSi (va_runS (As := [.int (nI g), .int (nI ((2 * a) + 1)), .int (nI ((2 * b) - 1))]) (rest := []) ⟨hx, hb, hml, hown, hts⟩ (conX4_isIn l D T (nI g) (nI ((2 * a) + 1)) (nI ((2 * b) - 1))) (va_cwS 3 hts gX4_isWithin_X4_isIn rfl rfl rfl (by decide +kernel) ⟨Nat.le_of_ble_eq_true rfl, Nat.le_of_ble_eq_true rfl⟩) (preS hK trivial) rfl rfl hl.1 rfl (lv_room (Nat.le_of_ble_eq_true rfl)) dX4_isWithin_57 ⟨Nat.le_of_ble_eq_true rfl, Nat.le_of_ble_eq_true rfl⟩).run (fun r1 hr1 => ?_)
        rw [hr1]
        exact W.zret (v := inM (nI g) (nI ((2 * a) + 1)) (nI ((2 * b) - 1))) hx hb hr (by first | rfl | exact congrArg Value.int (nar_inM _ _ _)) (fun t ht _ => ⟨inM (nI g) (nI ((2 * a) + 1)) (nI ((2 * b) - 1)), rfl, by rw [inM_nat (by omega) (by omega) (by omega)]; exact ite_iff (by unfold fgN lgN; rw [if_neg c2, if_neg c2]; (repeat' split) <;> omega), ht⟩) (fun q hq => absurd hq List.not_mem_nil) dX4_isWithin_60
      · skip
        have c41 : ¬ (ee ≤ 1) := fun q9 => c41 ((nc_le (a := ee) (b := 1) (by omega) (by omega)).mpr q9)
        refine lv_iconst (v := nI 0) hx hb dX4_isWithin_44 (by decide) ?_
        refine lv_goto (tgt := 49) hx hb dX4_isWithin_45 (by decide) ?_
        refine lv_isub hx hb dX4_isWithin_49 ?_
        rw [pk_sub (a := 2 * b) (b := 0) (by omega)]
        refine lv_istore (lv' := [(5, .int (nI ((2 * b) - 0))), (4, .int (nI ((2 * a) + 1))), (0, .int (nI g)), (1, .int (nI a)), (2, .int (nI b)), (3, .int (nI ee))]) hx hb dX4_isWithin_50 hl (by decide) rfl (fun ls hl => ?_)
        refine lv_iload_n hx hb dX4_isWithin_52 rfl (lv_at hl 2 rfl) ?_
        refine lv_iload hx hb dX4_isWithin_53 (lv_at hl 1 rfl) ?_
        refine lv_iload hx hb dX4_isWithin_55 (lv_at hl 0 rfl) ?_
        refine vp_callSi (va_runS (As := [.int (nI g), .int (nI ((2 * a) + 1)), .int (nI ((2 * b) - 0))]) (rest := []) ⟨hx, hb, hml, hown, hts⟩ (conX4_isIn l D T (nI g) (nI ((2 * a) + 1)) (nI ((2 * b) - 0))) (va_cwS 3 hts gX4_isWithin_X4_isIn rfl rfl rfl (by decide +kernel) ⟨Nat.le_of_ble_eq_true rfl, Nat.le_of_ble_eq_true rfl⟩) (preS hK trivial) rfl rfl hl.1 rfl (lv_room (Nat.le_of_ble_eq_true rfl)) dX4_isWithin_57 ⟨Nat.le_of_ble_eq_true rfl, Nat.le_of_ble_eq_true rfl⟩).run (fun r2 hr2 => ?_)
        rw [hr2]
        exact W.zret (v := inM (nI g) (nI ((2 * a) + 1)) (nI ((2 * b) - 0))) hx hb hr (by first | rfl | exact congrArg Value.int (nar_inM _ _ _)) (fun t ht _ => ⟨inM (nI g) (nI ((2 * a) + 1)) (nI ((2 * b) - 0)), rfl, by rw [inM_nat (by omega) (by omega) (by omega)]; exact ite_iff (by unfold fgN lgN; rw [if_neg c2, if_neg c2]; (repeat' split) <;> omega), ht⟩) (fun q hq => absurd hq List.not_mem_nil) dX4_isWithin_60
    · skip
      have c25 : ee % 2 = 1 := (nc_eq (a := ee % 2) (b := 1) (by omega) (by omega)).mp c25
      refine lv_iconst (v := nI 0) hx hb dX4_isWithin_28 (by decide) ?_
      refine lv_goto (tgt := 33) hx hb dX4_isWithin_29 (by decide) ?_
      refine lv_iadd hx hb dX4_isWithin_33 ?_
      rw [nI_add]
      refine lv_istore (lv' := [(4, .int (nI ((2 * a) + 0))), (0, .int (nI g)), (1, .int (nI a)), (2, .int (nI b)), (3, .int (nI ee))]) hx hb dX4_isWithin_34 hl (by decide) rfl (fun ls hl => ?_)
      refine lv_iconst (v := nI 2) hx hb dX4_isWithin_36 (by decide) ?_
      refine lv_iload_n hx hb dX4_isWithin_37 rfl (lv_at hl 3 rfl) ?_
      refine lv_imul hx hb dX4_isWithin_38 ?_
      rw [pk_mul]
      refine lv_iload_n hx hb dX4_isWithin_39 rfl (lv_at hl 4 rfl) ?_
      refine lv_iconst (v := nI 1) hx hb dX4_isWithin_40 (by decide) ?_
      refine lv_icmp_le (tgt := 48) hx hb dX4_isWithin_41 (by decide) (fun c41 => ?_) (fun c41 => ?_)
      · skip
        have c41 : ee ≤ 1 := (nc_le (a := ee) (b := 1) (by omega) (by omega)).mp c41
        refine lv_iconst (v := nI 1) hx hb dX4_isWithin_48 (by decide) ?_
        refine lv_isub hx hb dX4_isWithin_49 ?_
        rw [pk_sub (a := 2 * b) (b := 1) (by omega)]
        refine lv_istore (lv' := [(5, .int (nI ((2 * b) - 1))), (4, .int (nI ((2 * a) + 0))), (0, .int (nI g)), (1, .int (nI a)), (2, .int (nI b)), (3, .int (nI ee))]) hx hb dX4_isWithin_50 hl (by decide) rfl (fun ls hl => ?_)
        refine lv_iload_n hx hb dX4_isWithin_52 rfl (lv_at hl 2 rfl) ?_
        refine lv_iload hx hb dX4_isWithin_53 (lv_at hl 1 rfl) ?_
        refine lv_iload hx hb dX4_isWithin_55 (lv_at hl 0 rfl) ?_
        refine vp_callSi (va_runS (As := [.int (nI g), .int (nI ((2 * a) + 0)), .int (nI ((2 * b) - 1))]) (rest := []) ⟨hx, hb, hml, hown, hts⟩ (conX4_isIn l D T (nI g) (nI ((2 * a) + 0)) (nI ((2 * b) - 1))) (va_cwS 3 hts gX4_isWithin_X4_isIn rfl rfl rfl (by decide +kernel) ⟨Nat.le_of_ble_eq_true rfl, Nat.le_of_ble_eq_true rfl⟩) (preS hK trivial) rfl rfl hl.1 rfl (lv_room (Nat.le_of_ble_eq_true rfl)) dX4_isWithin_57 ⟨Nat.le_of_ble_eq_true rfl, Nat.le_of_ble_eq_true rfl⟩).run (fun r3 hr3 => ?_)
        rw [hr3]
        exact W.zret (v := inM (nI g) (nI ((2 * a) + 0)) (nI ((2 * b) - 1))) hx hb hr (by first | rfl | exact congrArg Value.int (nar_inM _ _ _)) (fun t ht _ => ⟨inM (nI g) (nI ((2 * a) + 0)) (nI ((2 * b) - 1)), rfl, by rw [inM_nat (by omega) (by omega) (by omega)]; exact ite_iff (by unfold fgN lgN; rw [if_neg c2, if_neg c2]; (repeat' split) <;> omega), ht⟩) (fun q hq => absurd hq List.not_mem_nil) dX4_isWithin_60
      · skip
        have c41 : ¬ (ee ≤ 1) := fun q9 => c41 ((nc_le (a := ee) (b := 1) (by omega) (by omega)).mpr q9)
        refine lv_iconst (v := nI 0) hx hb dX4_isWithin_44 (by decide) ?_
        refine lv_goto (tgt := 49) hx hb dX4_isWithin_45 (by decide) ?_
        refine lv_isub hx hb dX4_isWithin_49 ?_
        rw [pk_sub (a := 2 * b) (b := 0) (by omega)]
        refine lv_istore (lv' := [(5, .int (nI ((2 * b) - 0))), (4, .int (nI ((2 * a) + 0))), (0, .int (nI g)), (1, .int (nI a)), (2, .int (nI b)), (3, .int (nI ee))]) hx hb dX4_isWithin_50 hl (by decide) rfl (fun ls hl => ?_)
        refine lv_iload_n hx hb dX4_isWithin_52 rfl (lv_at hl 2 rfl) ?_
        refine lv_iload hx hb dX4_isWithin_53 (lv_at hl 1 rfl) ?_
        refine lv_iload hx hb dX4_isWithin_55 (lv_at hl 0 rfl) ?_
        refine vp_callSi (va_runS (As := [.int (nI g), .int (nI ((2 * a) + 0)), .int (nI ((2 * b) - 0))]) (rest := []) ⟨hx, hb, hml, hown, hts⟩ (conX4_isIn l D T (nI g) (nI ((2 * a) + 0)) (nI ((2 * b) - 0))) (va_cwS 3 hts gX4_isWithin_X4_isIn rfl rfl rfl (by decide +kernel) ⟨Nat.le_of_ble_eq_true rfl, Nat.le_of_ble_eq_true rfl⟩) (preS hK trivial) rfl rfl hl.1 rfl (lv_room (Nat.le_of_ble_eq_true rfl)) dX4_isWithin_57 ⟨Nat.le_of_ble_eq_true rfl, Nat.le_of_ble_eq_true rfl⟩).run (fun r4 hr4 => ?_)
        rw [hr4]
        exact W.zret (v := inM (nI g) (nI ((2 * a) + 0)) (nI ((2 * b) - 0))) hx hb hr (by first | rfl | exact congrArg Value.int (nar_inM _ _ _)) (fun t ht _ => ⟨inM (nI g) (nI ((2 * a) + 0)) (nI ((2 * b) - 0)), rfl, by rw [inM_nat (by omega) (by omega) (by omega)]; exact ite_iff (by unfold fgN lgN; rw [if_neg c2, if_neg c2]; (repeat' split) <;> omega), ht⟩) (fun q hq => absurd hq List.not_mem_nil) dX4_isWithin_60
  · skip
    have c2 : a = b := (nc_eq (a := a) (b := b) (by omega) (by omega)).mp c2
    refine lv_iload_n hx hb dX4_isWithin_5 rfl (lv_at hl 0 rfl) ?_
    refine lv_iconst (v := nI 2) hx hb dX4_isWithin_6 (by decide) ?_
    refine lv_iload_n hx hb dX4_isWithin_7 rfl (lv_at hl 1 rfl) ?_
    refine lv_imul hx hb dX4_isWithin_8 ?_
    rw [pk_mul]
    refine lv_icmp_ne (tgt := 16) hx hb dX4_isWithin_9 (by decide) (fun c9 => ?_) (fun c9 => ?_)
    · skip
      have c9 : ¬ (g = 2 * a) := fun q9 => c9 ((nc_eq (a := g) (b := 2 * a) (by omega) (by omega)).mpr q9)
      refine lv_iconst (v := nI 0) hx hb dX4_isWithin_16 (by decide) ?_
      exact W.zret (v := nI 0) hx hb hr (by first | rfl | exact congrArg Value.int (nar_inM _ _ _)) (fun t ht _ => ⟨nI 0, rfl, by first | exact (if_pos (by unfold fgN lgN; rw [if_pos c2, if_pos c2]; omega)).symm | exact (if_neg (by unfold fgN lgN; rw [if_pos c2, if_pos c2]; omega)).symm, ht⟩) (fun q hq => absurd hq List.not_mem_nil) dX4_isWithin_17
    · skip
      have c9 : g = 2 * a := (nc_eq (a := g) (b := 2 * a) (by omega) (by omega)).mp c9
      refine lv_iconst (v := nI 1) hx hb dX4_isWithin_12 (by decide) ?_
      refine lv_goto (tgt := 17) hx hb dX4_isWithin_13 (by decide) ?_
      exact W.zret (v := nI 1) hx hb hr (by first | rfl | exact congrArg Value.int (nar_inM _ _ _)) (fun t ht _ => ⟨nI 1, rfl, by first | exact (if_pos (by unfold fgN lgN; rw [if_pos c2, if_pos c2]; omega)).symm | exact (if_neg (by unfold fgN lgN; rw [if_pos c2, if_pos c2]; omega)).symm, ht⟩) (fun q hq => absurd hq List.not_mem_nil) dX4_isWithin_17

set_option maxHeartbeats 4000000 in
set_option maxRecDepth 100000 in
theorem conX4_count (l : Launch) (D : va_G) (T : Nat → ClassId) (a : Nat) (v : Int32) : Met l yX4_count wsX4_count ({ frames := 0, cells := 0, slots := 0, locals := 0 }) (cP D T [.ref a] (fun H => pAt D H a (eN (T 0) 201 (fun _ => v)))) (vp_Si (fun r => r = cntc v 201)) 0 0 (fun _ => False) := by
  refine Met.ofW (cc := cX4_count) (maxL := 6) (ret := (some .int)) (by decide) rfl ?_
  intro p e s m args below meth c s₁ B hml hv9
  obtain ⟨rfl, hK, ha⟩ := hv9
  have hx := B.exec
  have hb := B.bytes
  have hr := B.returns
  have hts := atoms_spec (ws := wsX4_count) B.pre
  have hown : s.vm.findClass RX4 = some m.cls := findClass_of_methodNamed B.named
  have hlocks := B.notSynchronized
  have hl := lv_entry ([.ref a]) (n := 6) (Nat.le_of_ble_eq_true rfl)
  rw [lg_entry_eq]
  generalize (lg_sl ([.ref a]) ++ List.replicate (6 - (lg_sl ([.ref a])).length) Slot.unset).toArray = ls at hl ⊢
  have hl : lv_has ls 6 [(0, .ref a)] := hl
  refine lv_iconst (v := nI 0) hx hb dX4_count_0 (by decide) ?_
  refine lv_istore_n (lv' := [(1, .int (nI 0)), (0, .ref a)]) hx hb dX4_count_1 rfl hl (by decide) rfl (fun ls hl => ?_)
  refine lv_aload_n hx hb dX4_count_2 rfl (lv_at hl 1 rfl) ?_
  refine lv_astore_n (lv' := [(2, .ref a), (1, .int (nI 0)), (0, .ref a)]) hx hb dX4_count_3 rfl hl (by decide) rfl (fun ls hl => ?_)
  refine lv_aload_n hx hb dX4_count_4 rfl (lv_at hl 0 rfl) ?_
  refine q_len hx hb hK 0 rfl ha dX4_count_5 ?_
  refine lv_istore_n (lv' := [(3, .int (nI 201)), (2, .ref a), (1, .int (nI 0)), (0, .ref a)]) hx hb dX4_count_6 rfl hl (by decide) rfl (fun ls hl => ?_)
  refine lv_iconst (v := nI 0) hx hb dX4_count_7 (by decide) ?_
  refine lv_istore (lv' := [(4, .int (nI 0)), (3, .int (nI 201)), (2, .ref a), (1, .int (nI 0)), (0, .ref a)]) hx hb dX4_count_8 hl (by decide) rfl (fun ls hl => ?_)
  refine q_for (fun (i : Nat) (H : Heap) (locs : List Loc) (ls : Array Slot) => H = s.heap ∧ locs = [] ∧ lv_has ls 6 [(4, .int (nI i)), (3, .int (nI 201)), (2, .ref a), (1, .int (cntc v i)), (0, .ref a)]) (N := 201) 0 (by omega) ?_ ?_ ?_
  · skip
    have e1 : nI 0 = cntc v 0 := by exact (cntc_0 v).symm
    exact ⟨rfl, rfl, lv_sub (lv_ex hl 3 rfl (congrArg Value.int e1)) [0, 1, 2, 3, 4] rfl⟩
  · skip
    intro i H locs ls hi9 hin9 hnext
    obtain ⟨rfl, rfl, hl⟩ := hin9
    refine lv_iload hx hb dX4_count_10 (lv_at hl 0 rfl) ?_
    refine lv_iload_n hx hb dX4_count_12 rfl (lv_at hl 1 rfl) ?_
    refine lv_icmp_ge (tgt := 41) hx hb dX4_count_13 (by decide) (fun c13 => ?_) (fun c13 => ?_)
    · skip
      have c13 : 201 ≤ i := (nc_le (a := 201) (b := i) (by omega) (by omega)).mp c13
      omega
    · skip
      have c13 : ¬ (201 ≤ i) := fun q9 => c13 ((nc_le (a := 201) (b := i) (by omega) (by omega)).mpr q9)
      refine lv_aload_n hx hb dX4_count_16 rfl (lv_at hl 2 rfl) ?_
      refine lv_iload hx hb dX4_count_17 (lv_at hl 0 rfl) ?_
      refine q_zald hx hb hK ha i (rfl) (by omega) (by decide) dX4_count_19 ?_
      refine W.eq (g2 := F0 m 20 ls [.int v]) rfl ?_
      refine lv_istore (lv' := [(5, .int v), (4, .int (nI i)), (3, .int (nI 201)), (2, .ref a), (1, .int (cntc v i)), (0, .ref a)]) hx hb dX4_count_20 hl (by decide) rfl (fun ls hl => ?_)
      refine lv_iload_n hx hb dX4_count_22 rfl (lv_at hl 4 rfl) ?_
      refine lv_iload hx hb dX4_count_23 (lv_at hl 0 rfl) ?_
      refine lv_if_eq (tgt := 32) hx hb dX4_count_25 (by decide) (fun c25 => ?_) (fun c25 => ?_)
      · skip
        refine lv_iconst (v := nI 0) hx hb dX4_count_32 (by decide) ?_
        refine lv_iadd hx hb dX4_count_33 ?_
        refine lv_istore_n (lv' := [(1, .int ((cntc v i) + (nI 0))), (5, .int v), (4, .int (nI i)), (3, .int (nI 201)), (2, .ref a), (0, .ref a)]) hx hb dX4_count_34 rfl hl (by decide) rfl (fun ls hl => ?_)
        refine lv_iinc (v := nI (i + 1)) (lv' := [(4, .int (nI (i + 1))), (1, .int ((cntc v i) + (nI 0))), (5, .int v), (3, .int (nI 201)), (2, .ref a), (0, .ref a)]) hx hb dX4_count_35 hl (k := 2) rfl (inc_1 _) (by decide) rfl (fun ls hl => ?_)
        refine lv_goto (tgt := 10) hx hb dX4_count_38 (by decide) ?_
        have e2 : (cntc v i) + (nI 0) = cntc v (i + 1) := by first | (exact cntc_sp c25) | (exact cntc_sn c25)
        exact hnext _ _ _ ⟨rfl, rfl, lv_sub (lv_ex hl 1 rfl (congrArg Value.int e2)) [0, 3, 4, 1, 5] rfl⟩
      · skip
        refine lv_iconst (v := nI 1) hx hb dX4_count_28 (by decide) ?_
        refine lv_goto (tgt := 33) hx hb dX4_count_29 (by decide) ?_
        refine lv_iadd hx hb dX4_count_33 ?_
        refine lv_istore_n (lv' := [(1, .int ((cntc v i) + (nI 1))), (5, .int v), (4, .int (nI i)), (3, .int (nI 201)), (2, .ref a), (0, .ref a)]) hx hb dX4_count_34 rfl hl (by decide) rfl (fun ls hl => ?_)
        refine lv_iinc (v := nI (i + 1)) (lv' := [(4, .int (nI (i + 1))), (1, .int ((cntc v i) + (nI 1))), (5, .int v), (3, .int (nI 201)), (2, .ref a), (0, .ref a)]) hx hb dX4_count_35 hl (k := 2) rfl (inc_1 _) (by decide) rfl (fun ls hl => ?_)
        refine lv_goto (tgt := 10) hx hb dX4_count_38 (by decide) ?_
        have e3 : (cntc v i) + (nI 1) = cntc v (i + 1) := by first | (exact cntc_sp c25) | (exact cntc_sn c25)
        exact hnext _ _ _ ⟨rfl, rfl, lv_sub (lv_ex hl 1 rfl (congrArg Value.int e3)) [0, 3, 4, 1, 5] rfl⟩
  · skip
    intro H locs ls hin9
    obtain ⟨rfl, rfl, hl⟩ := hin9
    refine lv_iload hx hb dX4_count_10 (lv_at hl 0 rfl) ?_
    refine lv_iload_n hx hb dX4_count_12 rfl (lv_at hl 1 rfl) ?_
    refine lv_icmp_ge (tgt := 41) hx hb dX4_count_13 (by decide) (fun c13 => ?_) (fun c13 => ?_)
    · skip
      have c13 : 201 ≤ 201 := (nc_le (a := 201) (b := 201) (by omega) (by omega)).mp c13
      refine lv_iload_n hx hb dX4_count_41 rfl (lv_at hl 3 rfl) ?_
      exact W.iret (v := cntc v 201) hx hb hr (fun t ht _ => ⟨cntc v 201, rfl, by rfl, ht⟩) (fun q hq => absurd hq List.not_mem_nil) dX4_count_42
    · skip
      have c13 : ¬ (201 ≤ 201) := fun q9 => c13 ((nc_le (a := 201) (b := 201) (by omega) (by omega)).mpr q9)
      omega

set_option maxHeartbeats 4000000 in
set_option maxRecDepth 100000 in
theorem conX4_firstY (l : Launch) (D : va_G) (T : Nat → ClassId) (a : Nat) (v : Int32) (k : Nat) (hk : k ≤ 201) : Met l yX4_first wsX4_first ({ frames := 0, cells := 0, slots := 0, locals := 0 }) (cP D T [.ref a, .int (nI k), .int v] (fun H => pAt D H a (eN (T 0) 201 (fun _ => v)))) (vp_Si (fun r => r = nI k)) 0 0 (fun _ => False) := by
  refine Met.ofW (cc := cX4_first) (maxL := 4) (ret := (some .int)) (by decide) rfl ?_
  intro p e s m args below meth c s₁ B hml hv9
  obtain ⟨rfl, hK, ha⟩ := hv9
  have hx := B.exec
  have hb := B.bytes
  have hr := B.returns
  have hts := atoms_spec (ws := wsX4_first) B.pre
  have hown : s.vm.findClass RX4 = some m.cls := findClass_of_methodNamed B.named
  have hlocks := B.notSynchronized
  have hl := lv_entry ([.ref a, .int (nI k), .int v]) (n := 4) (Nat.le_of_ble_eq_true rfl)
  rw [lg_entry_eq]
  generalize (lg_sl ([.ref a, .int (nI k), .int v]) ++ List.replicate (4 - (lg_sl ([.ref a, .int (nI k), .int v])).length) Slot.unset).toArray = ls at hl ⊢
  have hl : lv_has ls 4 [(0, .ref a), (1, .int (nI k)), (2, .int v)] := hl
  refine lv_iload_n hx hb dX4_first_0 rfl (lv_at hl 1 rfl) ?_
  refine lv_istore_n (lv' := [(3, .int (nI k)), (0, .ref a), (1, .int (nI k)), (2, .int v)]) hx hb dX4_first_1 rfl hl (by decide) rfl (fun ls hl => ?_)
  refine lv_iload_n hx hb dX4_first_2 rfl (lv_at hl 0 rfl) ?_
  refine lv_sipush (v := nI 201) hx hb dX4_first_3 (by decide) ?_
  refine lv_icmp_ge (tgt := 22) hx hb dX4_first_6 (by decide) (fun c6 => ?_) (fun c6 => ?_)
  · skip
    have c6 : 201 ≤ k := (nc_le (a := 201) (b := k) (by omega) (by omega)).mp c6
    refine lv_iload_n hx hb dX4_first_22 rfl (lv_at hl 0 rfl) ?_
    exact W.iret (v := nI k) hx hb hr (fun t ht _ => ⟨nI k, rfl, by rfl, ht⟩) (fun q hq => absurd hq List.not_mem_nil) dX4_first_23
  · skip
    have c6 : ¬ (201 ≤ k) := fun q9 => c6 ((nc_le (a := 201) (b := k) (by omega) (by omega)).mpr q9)
    refine lv_aload_n hx hb dX4_first_9 rfl (lv_at hl 1 rfl) ?_
    refine lv_iload_n hx hb dX4_first_10 rfl (lv_at hl 0 rfl) ?_
    refine q_zald hx hb hK ha k (rfl) (by omega) (by decide) dX4_first_11 ?_
    refine W.eq (g2 := F0 m 12 ls [.int v]) rfl ?_
    refine lv_iload_n hx hb dX4_first_12 rfl (lv_at hl 3 rfl) ?_
    refine lv_icmp_eq (tgt := 22) hx hb dX4_first_13 (by decide) (fun c13 => ?_) (fun c13 => ?_)
    · skip
      refine lv_iload_n hx hb dX4_first_22 rfl (lv_at hl 0 rfl) ?_
      exact W.iret (v := nI k) hx hb hr (fun t ht _ => ⟨nI k, rfl, by rfl, ht⟩) (fun q hq => absurd hq List.not_mem_nil) dX4_first_23
    · skip
      exact absurd rfl c13

set_option maxHeartbeats 4000000 in
set_option maxRecDepth 100000 in
theorem conX4_firstN (l : Launch) (D : va_G) (T : Nat → ClassId) (a : Nat) (v w : Int32) (k : Nat) (hk : k ≤ 201) (hvw : ¬ v = w) : Met l yX4_first wsX4_first ({ frames := 0, cells := 0, slots := 0, locals := 0 }) (cP D T [.ref a, .int (nI k), .int w] (fun H => pAt D H a (eN (T 0) 201 (fun _ => v)))) (vp_Si (fun r => r = nI 201)) 0 0 (fun _ => False) := by
  refine Met.ofW (cc := cX4_first) (maxL := 4) (ret := (some .int)) (by decide) rfl ?_
  intro p e s m args below meth c s₁ B hml hv9
  obtain ⟨rfl, hK, ha⟩ := hv9
  have hx := B.exec
  have hb := B.bytes
  have hr := B.returns
  have hts := atoms_spec (ws := wsX4_first) B.pre
  have hown : s.vm.findClass RX4 = some m.cls := findClass_of_methodNamed B.named
  have hlocks := B.notSynchronized
  have hl := lv_entry ([.ref a, .int (nI k), .int w]) (n := 4) (Nat.le_of_ble_eq_true rfl)
  rw [lg_entry_eq]
  generalize (lg_sl ([.ref a, .int (nI k), .int w]) ++ List.replicate (4 - (lg_sl ([.ref a, .int (nI k), .int w])).length) Slot.unset).toArray = ls at hl ⊢
  have hl : lv_has ls 4 [(0, .ref a), (1, .int (nI k)), (2, .int w)] := hl
  refine lv_iload_n hx hb dX4_first_0 rfl (lv_at hl 1 rfl) ?_
  refine lv_istore_n (lv' := [(3, .int (nI k)), (0, .ref a), (1, .int (nI k)), (2, .int w)]) hx hb dX4_first_1 rfl hl (by decide) rfl (fun ls hl => ?_)
  refine q_for (fun (i : Nat) (H : Heap) (locs : List Loc) (ls : Array Slot) => H = s.heap ∧ locs = [] ∧ lv_has ls 4 [(3, .int (nI i)), (0, .ref a), (1, .int (nI k)), (2, .int w)]) (N := 201) k (by omega) ?_ ?_ ?_
  · skip
    exact ⟨rfl, rfl, lv_sub hl [0, 1, 2, 3] rfl⟩
  · skip
    intro i H locs ls hi9 hin9 hnext
    obtain ⟨rfl, rfl, hl⟩ := hin9
    refine lv_iload_n hx hb dX4_first_2 rfl (lv_at hl 0 rfl) ?_
    refine lv_sipush (v := nI 201) hx hb dX4_first_3 (by decide) ?_
    refine lv_icmp_ge (tgt := 22) hx hb dX4_first_6 (by decide) (fun c6 => ?_) (fun c6 => ?_)
    · skip
      have c6 : 201 ≤ i := (nc_le (a := 201) (b := i) (by omega) (by omega)).mp c6
      omega
    · skip
      have c6 : ¬ (201 ≤ i) := fun q9 => c6 ((nc_le (a := 201) (b := i) (by omega) (by omega)).mpr q9)
      refine lv_aload_n hx hb dX4_first_9 rfl (lv_at hl 1 rfl) ?_
      refine lv_iload_n hx hb dX4_first_10 rfl (lv_at hl 0 rfl) ?_
      refine q_zald hx hb hK ha i (rfl) (by omega) (by decide) dX4_first_11 ?_
      refine W.eq (g2 := F0 m 12 ls [.int v]) rfl ?_
      refine lv_iload_n hx hb dX4_first_12 rfl (lv_at hl 3 rfl) ?_
      refine lv_icmp_eq (tgt := 22) hx hb dX4_first_13 (by decide) (fun c13 => ?_) (fun c13 => ?_)
      · skip
        exact absurd c13 hvw
      · skip
        refine lv_iinc (v := nI (i + 1)) (lv' := [(3, .int (nI (i + 1))), (0, .ref a), (1, .int (nI k)), (2, .int w)]) hx hb dX4_first_16 hl (k := 0) rfl (inc_1 _) (by decide) rfl (fun ls hl => ?_)
        refine lv_goto (tgt := 2) hx hb dX4_first_19 (by decide) ?_
        exact hnext _ _ _ ⟨rfl, rfl, lv_sub hl [0, 1, 2, 3] rfl⟩
  · skip
    intro H locs ls hin9
    obtain ⟨rfl, rfl, hl⟩ := hin9
    refine lv_iload_n hx hb dX4_first_2 rfl (lv_at hl 0 rfl) ?_
    refine lv_sipush (v := nI 201) hx hb dX4_first_3 (by decide) ?_
    refine lv_icmp_ge (tgt := 22) hx hb dX4_first_6 (by decide) (fun c6 => ?_) (fun c6 => ?_)
    · skip
      have c6 : 201 ≤ 201 := (nc_le (a := 201) (b := 201) (by omega) (by omega)).mp c6
      refine lv_iload_n hx hb dX4_first_22 rfl (lv_at hl 0 rfl) ?_
      exact W.iret (v := nI 201) hx hb hr (fun t ht _ => ⟨nI 201, rfl, by rfl, ht⟩) (fun q hq => absurd hq List.not_mem_nil) dX4_first_23
    · skip
      have c6 : ¬ (201 ≤ 201) := fun q9 => c6 ((nc_le (a := 201) (b := 201) (by omega) (by omega)).mpr q9)
      omega

set_option maxHeartbeats 4000000 in
set_option maxRecDepth 100000 in
theorem conX4_others (l : Launch) (D : va_G) (T : Nat → ClassId) (sz : Nat) (a : Nat) : Met l yX4_others wsX4_others ({ frames := 0, cells := 1, slots := 201, locals := 0 }) (cP D T [.ref a] (fun H => H.size = sz ∧ pAt D H a (eN (T 0) 201 zr0))) (va_Qr (fun (_ : Unit) => True) (fun _ r t => sz ≤ r ∧ pAt D t.heap r (eN (T 0) 201 zr1)) (fun q : Nat => sz ≤ q)) 1 201 (fun q : Nat => sz ≤ q) := by
  refine Met.ofW (cc := cX4_others) (maxL := 3) (ret := (some (.array .boolean))) (by decide) rfl ?_
  intro p e s m args below meth c s₁ B hml hv9
  obtain ⟨rfl, hK, hsz, ha⟩ := hv9
  have hx := B.exec
  have hb := B.bytes
  have hr := B.returns
  have hts := atoms_spec (ws := wsX4_others) B.pre
  have hown : s.vm.findClass RX4 = some m.cls := findClass_of_methodNamed B.named
  have hlocks := B.notSynchronized
  generalize hAe : (fun q : Nat => sz ≤ q) = A
  have hA : ∀ q : Nat, s.heap.size ≤ q → A q := fun q h9 => by subst hAe; show sz ≤ q; omega
  have hS : va_S A s.heap s.heap [] := va_S.rf
  have hl := lv_entry ([.ref a]) (n := 3) (Nat.le_of_ble_eq_true rfl)
  rw [lg_entry_eq]
  generalize (lg_sl ([.ref a]) ++ List.replicate (3 - (lg_sl ([.ref a])).length) Slot.unset).toArray = ls at hl ⊢
  have hl : lv_has ls 3 [(0, .ref a)] := hl
  refine lv_sipush (v := nI 201) hx hb dX4_others_0 (by decide) ?_
  obtain ⟨b1, hb1⟩ : ∃ z : Nat, z = s.heap.size := ⟨_, rfl⟩
  have lha_b1 : a < b1 := by have h8 := ha.lt; omega
  have ln_b1 : s.heap.size ≤ b1 := by have h8 := hS.1; omega
  refine q_newz hx hb (hts (.arrayClass .boolean) (by decide +kernel)) hK 201 rfl (by decide) (Nat.le_of_ble_eq_true rfl) (Nat.le_of_ble_eq_true rfl) hS dX4_others_3 (fun H1 hw9 z1 o1 hS => ?_)
  rw [← hb1] at hw9 ⊢
  replace ha := ha.old o1
  have nb1 := hw9
  have sb1 : H1.size = b1 + 1 := by omega
  refine lv_astore_n (lv' := [(1, .ref b1), (0, .ref a)]) hx hb dX4_others_5 rfl hl (by decide) rfl (fun ls hl => ?_)
  refine lv_iconst (v := nI 0) hx hb dX4_others_6 (by decide) ?_
  refine lv_istore_n (lv' := [(2, .int (nI 0)), (1, .ref b1), (0, .ref a)]) hx hb dX4_others_7 rfl hl (by decide) rfl (fun ls hl => ?_)
  refine q_for (fun (i : Nat) (H : Heap) (locs : List Loc) (ls : Array Slot) => va_S A s.heap H locs ∧ lv_has ls 3 [(2, .int (nI i)), (1, .ref b1), (0, .ref a)] ∧ pAt D H a (eN (T 0) 201 zr0) ∧ pAt D H b1 (eN (T 0) 201 (rwI (nI 1) i))) (N := 201) 0 (by omega) ?_ ?_ ?_
  · skip
    have e1 : (eN (T 0) 201 zr0) = (eN (T 0) 201 (rwI (nI 1) 0)) := by (rw [rwI_0])
    exact ⟨hS, lv_sub hl [0, 1, 2] rfl, ha, (by rw [← e1]; exact nb1)⟩
  · skip
    intro i H locs ls hi9 hin9 hnext
    obtain ⟨hS, hl, ha, nb1⟩ := hin9
    refine lv_iload_n hx hb dX4_others_8 rfl (lv_at hl 0 rfl) ?_
    refine lv_sipush (v := nI 201) hx hb dX4_others_9 (by decide) ?_
    refine lv_icmp_ge (tgt := 35) hx hb dX4_others_12 (by decide) (fun c12 => ?_) (fun c12 => ?_)
    · skip
      have c12 : 201 ≤ i := (nc_le (a := 201) (b := i) (by omega) (by omega)).mp c12
      omega
    · skip
      have c12 : ¬ (201 ≤ i) := fun q9 => c12 ((nc_le (a := 201) (b := i) (by omega) (by omega)).mpr q9)
      refine lv_aload_n hx hb dX4_others_15 rfl (lv_at hl 1 rfl) ?_
      refine lv_iload_n hx hb dX4_others_16 rfl (lv_at hl 0 rfl) ?_
      refine lv_aload_n hx hb dX4_others_17 rfl (lv_at hl 2 rfl) ?_
      refine lv_iload_n hx hb dX4_others_18 rfl (lv_at hl 0 rfl) ?_
      refine q_zald hx hb hK ha i (rfl) (by omega) (by decide) dX4_others_19 ?_
      refine W.eq (g2 := F0 m 20 ls [.int (nI 0), .int (nI i), .ref b1]) rfl ?_
      refine lv_if_ne (tgt := 27) hx hb dX4_others_20 (by decide) (fun c20 => ?_) (fun c20 => ?_)
      · skip
        have c20 : ¬ (0 = 0) := fun q9 => c20 ((nc_eq (a := 0) (b := 0) (by omega) (by omega)).mpr q9)
        omega
      · skip
        have c20 : 0 = 0 := (nc_eq (a := 0) (b := 0) (by omega) (by omega)).mp c20
        refine lv_iconst (v := nI 1) hx hb dX4_others_23 (by decide) ?_
        refine lv_goto (tgt := 28) hx hb dX4_others_24 (by decide) ?_
        refine q_zast hx hb hK nb1 i (rfl) (by omega) (by decide) (rfl) hS (hA _ (by omega)) dX4_others_28 (fun H1 locs1 hw9 hz oq hS => ?_)
        replace ha := ha.ne oq (by omega)
        have nb1 := hw9
        refine lv_iinc (v := nI (i + 1)) (lv' := [(2, .int (nI (i + 1))), (1, .ref b1), (0, .ref a)]) hx hb dX4_others_29 hl (k := 0) rfl (inc_1 _) (by decide) rfl (fun ls hl => ?_)
        refine lv_goto (tgt := 8) hx hb dX4_others_32 (by decide) ?_
        have e2 : (eN (T 0) 201 (upd (rwI (nI 1) i) i (nI 1))) = (eN (T 0) 201 (rwI (nI 1) (i + 1))) := by (rw [rwI_s])
        exact hnext _ _ _ ⟨hS, lv_sub hl [0, 1, 2] rfl, ha, (by rw [← e2]; exact nb1)⟩
  · skip
    intro H locs ls hin9
    obtain ⟨hS, hl, ha, nb1⟩ := hin9
    refine lv_iload_n hx hb dX4_others_8 rfl (lv_at hl 0 rfl) ?_
    refine lv_sipush (v := nI 201) hx hb dX4_others_9 (by decide) ?_
    refine lv_icmp_ge (tgt := 35) hx hb dX4_others_12 (by decide) (fun c12 => ?_) (fun c12 => ?_)
    · skip
      have c12 : 201 ≤ 201 := (nc_le (a := 201) (b := 201) (by omega) (by omega)).mp c12
      refine lv_aload_n hx hb dX4_others_35 rfl (lv_at hl 1 rfl) ?_
      exact W.aret (v := .ref b1) hx hb hr (Or.inr ⟨_, rfl⟩) (Or.inr ⟨_, rfl⟩) (fun t ht _ => ⟨⟨(), b1, rfl, trivial, by dsimp only; rw [ht]; exact ⟨by omega, nb1.outN (fun k hk => if_pos hk)⟩⟩, hS.F ht⟩) hS.2.2 dX4_others_36
    · skip
      have c12 : ¬ (201 ≤ 201) := fun q9 => c12 ((nc_le (a := 201) (b := 201) (by omega) (by omega)).mpr q9)
      omega

set_option maxHeartbeats 4000000 in
set_option maxRecDepth 100000 in
theorem conX4_negated (l : Launch) (D : va_G) (T : Nat → ClassId) (sz : Nat) (a : Nat) : Met l yX4_negated wsX4_negated ({ frames := 0, cells := 1, slots := 201, locals := 0 }) (cP D T [.ref a] (fun H => H.size = sz ∧ pAt D H a (eN (T 1) 201 zr0))) (va_Qr (fun (_ : Unit) => True) (fun _ r t => sz ≤ r ∧ pAt D t.heap r (eN (T 1) 201 zr0)) (fun q : Nat => sz ≤ q)) 1 201 (fun q : Nat => sz ≤ q) := by
  refine Met.ofW (cc := cX4_negated) (maxL := 3) (ret := (some (.array .int))) (by decide) rfl ?_
  intro p e s m args below meth c s₁ B hml hv9
  obtain ⟨rfl, hK, hsz, ha⟩ := hv9
  have hx := B.exec
  have hb := B.bytes
  have hr := B.returns
  have hts := atoms_spec (ws := wsX4_negated) B.pre
  have hown : s.vm.findClass RX4 = some m.cls := findClass_of_methodNamed B.named
  have hlocks := B.notSynchronized
  generalize hAe : (fun q : Nat => sz ≤ q) = A
  have hA : ∀ q : Nat, s.heap.size ≤ q → A q := fun q h9 => by subst hAe; show sz ≤ q; omega
  have hS : va_S A s.heap s.heap [] := va_S.rf
  have hl := lv_entry ([.ref a]) (n := 3) (Nat.le_of_ble_eq_true rfl)
  rw [lg_entry_eq]
  generalize (lg_sl ([.ref a]) ++ List.replicate (3 - (lg_sl ([.ref a])).length) Slot.unset).toArray = ls at hl ⊢
  have hl : lv_has ls 3 [(0, .ref a)] := hl
  refine lv_sipush (v := nI 201) hx hb dX4_negated_0 (by decide) ?_
  obtain ⟨b1, hb1⟩ : ∃ z : Nat, z = s.heap.size := ⟨_, rfl⟩
  have lha_b1 : a < b1 := by have h8 := ha.lt; omega
  have ln_b1 : s.heap.size ≤ b1 := by have h8 := hS.1; omega
  refine q_newi hx hb (hts (.arrayClass .int) (by decide +kernel)) hK 201 rfl (by decide) (Nat.le_of_ble_eq_true rfl) (Nat.le_of_ble_eq_true rfl) hS dX4_negated_3 (fun H1 hw9 z1 o1 hS => ?_)
  rw [← hb1] at hw9 ⊢
  replace ha := ha.old o1
  have nb1 := hw9
  have sb1 : H1.size = b1 + 1 := by omega
  refine lv_astore_n (lv' := [(1, .ref b1), (0, .ref a)]) hx hb dX4_negated_5 rfl hl (by decide) rfl (fun ls hl => ?_)
  refine lv_iconst (v := nI 0) hx hb dX4_negated_6 (by decide) ?_
  refine lv_istore_n (lv' := [(2, .int (nI 0)), (1, .ref b1), (0, .ref a)]) hx hb dX4_negated_7 rfl hl (by decide) rfl (fun ls hl => ?_)
  refine q_for (fun (i : Nat) (H : Heap) (locs : List Loc) (ls : Array Slot) => va_S A s.heap H locs ∧ lv_has ls 3 [(2, .int (nI i)), (1, .ref b1), (0, .ref a)] ∧ pAt D H a (eN (T 1) 201 zr0) ∧ pAt D H b1 (eN (T 1) 201 zr0)) (N := 201) 0 (by omega) ?_ ?_ ?_
  · skip
    exact ⟨hS, lv_sub hl [0, 1, 2] rfl, ha, nb1⟩
  · skip
    intro i H locs ls hi9 hin9 hnext
    obtain ⟨hS, hl, ha, nb1⟩ := hin9
    refine lv_iload_n hx hb dX4_negated_8 rfl (lv_at hl 0 rfl) ?_
    refine lv_sipush (v := nI 201) hx hb dX4_negated_9 (by decide) ?_
    refine lv_icmp_ge (tgt := 28) hx hb dX4_negated_12 (by decide) (fun c12 => ?_) (fun c12 => ?_)
    · skip
      have c12 : 201 ≤ i := (nc_le (a := 201) (b := i) (by omega) (by omega)).mp c12
      omega
    · skip
      have c12 : ¬ (201 ≤ i) := fun q9 => c12 ((nc_le (a := 201) (b := i) (by omega) (by omega)).mpr q9)
      refine lv_aload_n hx hb dX4_negated_15 rfl (lv_at hl 1 rfl) ?_
      refine lv_iload_n hx hb dX4_negated_16 rfl (lv_at hl 0 rfl) ?_
      refine lv_aload_n hx hb dX4_negated_17 rfl (lv_at hl 2 rfl) ?_
      refine lv_iload_n hx hb dX4_negated_18 rfl (lv_at hl 0 rfl) ?_
      refine q_iald hx hb hK ha i (rfl) (by omega) (by decide) dX4_negated_19 ?_
      refine W.eq (g2 := F0 m 20 ls [.int (nI 0), .int (nI i), .ref b1]) rfl ?_
      refine lv_ineg hx hb dX4_negated_20 ?_
      refine q_iast hx hb hK nb1 i (rfl) (by omega) (by decide) hS (hA _ (by omega)) dX4_negated_21 (fun H1 locs1 hw9 hz oq hS => ?_)
      replace ha := ha.ne oq (by omega)
      have nb1 := hw9
      refine lv_iinc (v := nI (i + 1)) (lv' := [(2, .int (nI (i + 1))), (1, .ref b1), (0, .ref a)]) hx hb dX4_negated_22 hl (k := 0) rfl (inc_1 _) (by decide) rfl (fun ls hl => ?_)
      refine lv_goto (tgt := 8) hx hb dX4_negated_25 (by decide) ?_
      have e1 : (eN (T 1) 201 (upd zr0 i (-(nI 0)))) = (eN (T 1) 201 zr0) := by (rw [show (-nI 0 : Int32) = nI 0 from rfl, upd_z])
      exact hnext _ _ _ ⟨hS, lv_sub hl [0, 1, 2] rfl, ha, (by rw [← e1]; exact nb1)⟩
  · skip
    intro H locs ls hin9
    obtain ⟨hS, hl, ha, nb1⟩ := hin9
    refine lv_iload_n hx hb dX4_negated_8 rfl (lv_at hl 0 rfl) ?_
    refine lv_sipush (v := nI 201) hx hb dX4_negated_9 (by decide) ?_
    refine lv_icmp_ge (tgt := 28) hx hb dX4_negated_12 (by decide) (fun c12 => ?_) (fun c12 => ?_)
    · skip
      have c12 : 201 ≤ 201 := (nc_le (a := 201) (b := 201) (by omega) (by omega)).mp c12
      refine lv_aload_n hx hb dX4_negated_28 rfl (lv_at hl 1 rfl) ?_
      exact W.aret (v := .ref b1) hx hb hr (Or.inr ⟨_, rfl⟩) (Or.inr ⟨_, rfl⟩) (fun t ht _ => ⟨⟨(), b1, rfl, trivial, by dsimp only; rw [ht]; exact ⟨by omega, nb1⟩⟩, hS.F ht⟩) hS.2.2 dX4_negated_29
    · skip
      have c12 : ¬ (201 ≤ 201) := fun q9 => c12 ((nc_le (a := 201) (b := 201) (by omega) (by omega)).mpr q9)
      omega

set_option maxHeartbeats 4000000 in
set_option maxRecDepth 100000 in
theorem conX4_isAt (l : Launch) (D : va_G) (T : Nat → ClassId) (a : Nat) (g : Int32) : Met l yX4_isAt wsX4_isAt ({ frames := 0, cells := 0, slots := 0, locals := 0 }) (cP D T [.ref a, .int g] (fun H => pAt D H a (eN (T 0) 201 zr0))) (vp_Si (fun r => r = nI 0)) 0 0 (fun _ => False) := by
  refine Met.ofW (cc := cX4_isAt) (maxL := 2) (ret := (some .boolean)) (by decide) rfl ?_
  intro p e s m args below meth c s₁ B hml hv9
  obtain ⟨rfl, hK, ha⟩ := hv9
  have hx := B.exec
  have hb := B.bytes
  have hr := B.returns
  have hts := atoms_spec (ws := wsX4_isAt) B.pre
  have hown : s.vm.findClass RX4 = some m.cls := findClass_of_methodNamed B.named
  have hlocks := B.notSynchronized
  have hl := lv_entry ([.ref a, .int g]) (n := 2) (Nat.le_of_ble_eq_true rfl)
  rw [lg_entry_eq]
  generalize (lg_sl ([.ref a, .int g]) ++ List.replicate (2 - (lg_sl ([.ref a, .int g])).length) Slot.unset).toArray = ls at hl ⊢
  have hl : lv_has ls 2 [(0, .ref a), (1, .int g)] := hl
  refine lv_iload_n hx hb dX4_isAt_0 rfl (lv_at hl 1 rfl) ?_
  refine lv_if_lt (tgt := 21) hx hb dX4_isAt_1 (by decide) (fun c1 => ?_) (fun c1 => ?_)
  · skip
    refine lv_iconst (v := nI 0) hx hb dX4_isAt_21 (by decide) ?_
    exact W.zret (v := nI 0) hx hb hr (rfl) (fun t ht _ => ⟨nI 0, rfl, by rfl, ht⟩) (fun q hq => absurd hq List.not_mem_nil) dX4_isAt_22
  · skip
    refine lv_iload_n hx hb dX4_isAt_4 rfl (lv_at hl 1 rfl) ?_
    refine lv_sipush (v := nI 201) hx hb dX4_isAt_5 (by decide) ?_
    refine lv_icmp_ge (tgt := 21) hx hb dX4_isAt_8 (by decide) (fun c8 => ?_) (fun c8 => ?_)
    · skip
      refine lv_iconst (v := nI 0) hx hb dX4_isAt_21 (by decide) ?_
      exact W.zret (v := nI 0) hx hb hr (rfl) (fun t ht _ => ⟨nI 0, rfl, by rfl, ht⟩) (fun q hq => absurd hq List.not_mem_nil) dX4_isAt_22
    · skip
      refine lv_aload_n hx hb dX4_isAt_11 rfl (lv_at hl 0 rfl) ?_
      refine lv_iload_n hx hb dX4_isAt_12 rfl (lv_at hl 1 rfl) ?_
      refine q_zald hx hb hK ha g.toNatClampNeg (in_eq c1) (in_lt c1 c8) (by decide) dX4_isAt_13 ?_
      refine W.eq (g2 := F0 m 14 ls [.int (nI 0)]) rfl ?_
      refine lv_if_eq (tgt := 21) hx hb dX4_isAt_14 (by decide) (fun c14 => ?_) (fun c14 => ?_)
      · skip
        have c14 : 0 = 0 := (nc_eq (a := 0) (b := 0) (by omega) (by omega)).mp c14
        refine lv_iconst (v := nI 0) hx hb dX4_isAt_21 (by decide) ?_
        exact W.zret (v := nI 0) hx hb hr (rfl) (fun t ht _ => ⟨nI 0, rfl, by rfl, ht⟩) (fun q hq => absurd hq List.not_mem_nil) dX4_isAt_22
      · skip
        have c14 : ¬ (0 = 0) := fun q9 => c14 ((nc_eq (a := 0) (b := 0) (by omega) (by omega)).mpr q9)
        omega

set_option maxHeartbeats 4000000 in
set_option maxRecDepth 100000 in
theorem conX4_moved (l : Launch) (D : va_G) (T : Nat → ClassId) (sz : Nat) (a : Nat) (x : Int32) : Met l yX4_moved wsX4_moved ({ frames := 1, cells := 1, slots := 201, locals := 21 }) (cP D T [.ref a, .int x] (fun H => H.size = sz ∧ pAt D H a (eN (T 0) 201 zr0))) (va_Qr (fun (_ : Unit) => True) (fun _ r t => sz ≤ r ∧ pAt D t.heap r (eN (T 0) 201 zr0)) (fun q : Nat => sz ≤ q)) 1 201 (fun q : Nat => sz ≤ q) := by
  refine Met.ofW (cc := cX4_moved) (maxL := 4) (ret := (some (.array .boolean))) (by decide) rfl ?_
  intro p e s m args below meth c s₁ B hml hv9
  obtain ⟨rfl, hK, hsz, ha⟩ := hv9
  have hx := B.exec
  have hb := B.bytes
  have hr := B.returns
  have hts := atoms_spec (ws := wsX4_moved) B.pre
  have hown : s.vm.findClass RX4 = some m.cls := findClass_of_methodNamed B.named
  have hlocks := B.notSynchronized
  generalize hAe : (fun q : Nat => sz ≤ q) = A
  have hA : ∀ q : Nat, s.heap.size ≤ q → A q := fun q h9 => by subst hAe; show sz ≤ q; omega
  have hS : va_S A s.heap s.heap [] := va_S.rf
  have hl := lv_entry ([.ref a, .int x]) (n := 4) (Nat.le_of_ble_eq_true rfl)
  rw [lg_entry_eq]
  generalize (lg_sl ([.ref a, .int x]) ++ List.replicate (4 - (lg_sl ([.ref a, .int x])).length) Slot.unset).toArray = ls at hl ⊢
  have hl : lv_has ls 4 [(0, .ref a), (1, .int x)] := hl
  refine lv_sipush (v := nI 201) hx hb dX4_moved_0 (by decide) ?_
  obtain ⟨b1, hb1⟩ : ∃ z : Nat, z = s.heap.size := ⟨_, rfl⟩
  have lha_b1 : a < b1 := by have h8 := ha.lt; omega
  have ln_b1 : s.heap.size ≤ b1 := by have h8 := hS.1; omega
  refine q_newz hx hb (hts (.arrayClass .boolean) (by decide +kernel)) hK 201 rfl (by decide) (Nat.le_of_ble_eq_true rfl) (Nat.le_of_ble_eq_true rfl) hS dX4_moved_3 (fun H1 hw9 z1 o1 hS => ?_)
  rw [← hb1] at hw9 ⊢
  replace ha := ha.old o1
  have nb1 := hw9
  have sb1 : H1.size = b1 + 1 := by omega
  refine lv_astore_n (lv' := [(2, .ref b1), (0, .ref a), (1, .int x)]) hx hb dX4_moved_5 rfl hl (by decide) rfl (fun ls hl => ?_)
  refine lv_iconst (v := nI 0) hx hb dX4_moved_6 (by decide) ?_
  refine lv_istore_n (lv' := [(3, .int (nI 0)), (2, .ref b1), (0, .ref a), (1, .int x)]) hx hb dX4_moved_7 rfl hl (by decide) rfl (fun ls hl => ?_)
  refine q_for (fun (i : Nat) (H : Heap) (locs : List Loc) (ls : Array Slot) => va_S A s.heap H locs ∧ lv_has ls 4 [(3, .int (nI i)), (2, .ref b1), (0, .ref a), (1, .int x)] ∧ pAt D H a (eN (T 0) 201 zr0) ∧ pAt D H b1 (eN (T 0) 201 zr0)) (N := 201) 0 (by omega) ?_ ?_ ?_
  · skip
    exact ⟨hS, lv_sub hl [0, 1, 2, 3] rfl, ha, nb1⟩
  · skip
    intro i H locs ls hi9 hin9 hnext
    obtain ⟨hS, hl, ha, nb1⟩ := hin9
    refine lv_iload_n hx hb dX4_moved_8 rfl (lv_at hl 0 rfl) ?_
    refine lv_sipush (v := nI 201) hx hb dX4_moved_9 (by decide) ?_
    refine lv_icmp_ge (tgt := 33) hx hb dX4_moved_12 (by decide) (fun c12 => ?_) (fun c12 => ?_)
    · skip
      have c12 : 201 ≤ i := (nc_le (a := 201) (b := i) (by omega) (by omega)).mp c12
      omega
    · skip
      have c12 : ¬ (201 ≤ i) := fun q9 => c12 ((nc_le (a := 201) (b := i) (by omega) (by omega)).mpr q9)
      refine lv_aload_n hx hb dX4_moved_15 rfl (lv_at hl 1 rfl) ?_
      refine lv_iload_n hx hb dX4_moved_16 rfl (lv_at hl 0 rfl) ?_
      refine lv_aload_n hx hb dX4_moved_17 rfl (lv_at hl 2 rfl) ?_
      refine lv_iload_n hx hb dX4_moved_18 rfl (lv_at hl 0 rfl) ?_
      refine lv_iconst (v := nI 2) hx hb dX4_moved_19 (by decide) ?_
      refine lv_iload_n hx hb dX4_moved_20 rfl (lv_at hl 3 rfl) ?_
      refine lv_imul hx hb dX4_moved_21 ?_
      refine lv_isub hx hb dX4_moved_22 ?_
      refine vp_callSi (va_runS (As := [.ref a, .int ((nI i) - ((nI 2) * x))]) (rest := [.int (nI i), .ref b1]) ⟨hx, hb, hml, hown, hts⟩ (conX4_isAt l D T a ((nI i) - ((nI 2) * x))) (va_cwS 2 hts gX4_moved_X4_isAt rfl rfl rfl (by decide +kernel) ⟨Nat.le_of_ble_eq_true rfl, Nat.le_of_ble_eq_true rfl⟩) (preS hK ha) rfl rfl hl.1 rfl (lv_room (Nat.le_of_ble_eq_true rfl)) dX4_moved_23 ⟨Nat.le_of_ble_eq_true rfl, Nat.le_of_ble_eq_true rfl⟩).run (fun r1 hr1 => ?_)
      rw [hr1]
      refine q_zast hx hb hK nb1 i (rfl) (by omega) (by decide) (rfl) hS (hA _ (by omega)) dX4_moved_26 (fun H1 locs1 hw9 hz oq hS => ?_)
      replace ha := ha.ne oq (by omega)
      have nb1 := hw9
      refine lv_iinc (v := nI (i + 1)) (lv' := [(3, .int (nI (i + 1))), (2, .ref b1), (0, .ref a), (1, .int x)]) hx hb dX4_moved_27 hl (k := 0) rfl (inc_1 _) (by decide) rfl (fun ls hl => ?_)
      refine lv_goto (tgt := 8) hx hb dX4_moved_30 (by decide) ?_
      have e2 : (eN (T 0) 201 (upd zr0 i (nI 0))) = (eN (T 0) 201 zr0) := by (rw [upd_z])
      exact hnext _ _ _ ⟨hS, lv_sub hl [0, 1, 2, 3] rfl, ha, (by rw [← e2]; exact nb1)⟩
  · skip
    intro H locs ls hin9
    obtain ⟨hS, hl, ha, nb1⟩ := hin9
    refine lv_iload_n hx hb dX4_moved_8 rfl (lv_at hl 0 rfl) ?_
    refine lv_sipush (v := nI 201) hx hb dX4_moved_9 (by decide) ?_
    refine lv_icmp_ge (tgt := 33) hx hb dX4_moved_12 (by decide) (fun c12 => ?_) (fun c12 => ?_)
    · skip
      have c12 : 201 ≤ 201 := (nc_le (a := 201) (b := 201) (by omega) (by omega)).mp c12
      refine lv_aload_n hx hb dX4_moved_33 rfl (lv_at hl 1 rfl) ?_
      exact W.aret (v := .ref b1) hx hb hr (Or.inr ⟨_, rfl⟩) (Or.inr ⟨_, rfl⟩) (fun t ht _ => ⟨⟨(), b1, rfl, trivial, by dsimp only; rw [ht]; exact ⟨by omega, nb1⟩⟩, hS.F ht⟩) hS.2.2 dX4_moved_34
    · skip
      have c12 : ¬ (201 ≤ 201) := fun q9 => c12 ((nc_le (a := 201) (b := 201) (by omega) (by omega)).mpr q9)
      omega

set_option maxHeartbeats 4000000 in
set_option maxRecDepth 100000 in
theorem conX4_both (l : Launch) (D : va_G) (T : Nat → ClassId) (sz : Nat) (a a2 : Nat) : Met l yX4_both wsX4_both ({ frames := 0, cells := 1, slots := 201, locals := 0 }) (cP D T [.ref a, .ref a2] (fun H => H.size = sz ∧ pAt D H a (eN (T 0) 201 zr0) ∧ pAt D H a2 (eN (T 0) 201 zr0))) (va_Qr (fun (_ : Unit) => True) (fun _ r t => sz ≤ r ∧ pAt D t.heap r (eN (T 0) 201 zr0)) (fun q : Nat => sz ≤ q)) 1 201 (fun q : Nat => sz ≤ q) := by
  refine Met.ofW (cc := cX4_both) (maxL := 4) (ret := (some (.array .boolean))) (by decide) rfl ?_
  intro p e s m args below meth c s₁ B hml hv9
  obtain ⟨rfl, hK, hsz, ha, ha2⟩ := hv9
  have hx := B.exec
  have hb := B.bytes
  have hr := B.returns
  have hts := atoms_spec (ws := wsX4_both) B.pre
  have hown : s.vm.findClass RX4 = some m.cls := findClass_of_methodNamed B.named
  have hlocks := B.notSynchronized
  generalize hAe : (fun q : Nat => sz ≤ q) = A
  have hA : ∀ q : Nat, s.heap.size ≤ q → A q := fun q h9 => by subst hAe; show sz ≤ q; omega
  have hS : va_S A s.heap s.heap [] := va_S.rf
  have hl := lv_entry ([.ref a, .ref a2]) (n := 4) (Nat.le_of_ble_eq_true rfl)
  rw [lg_entry_eq]
  generalize (lg_sl ([.ref a, .ref a2]) ++ List.replicate (4 - (lg_sl ([.ref a, .ref a2])).length) Slot.unset).toArray = ls at hl ⊢
  have hl : lv_has ls 4 [(0, .ref a), (1, .ref a2)] := hl
  refine lv_sipush (v := nI 201) hx hb dX4_both_0 (by decide) ?_
  obtain ⟨b1, hb1⟩ : ∃ z : Nat, z = s.heap.size := ⟨_, rfl⟩
  have lha_b1 : a < b1 := by have h8 := ha.lt; omega
  have lha2_b1 : a2 < b1 := by have h8 := ha2.lt; omega
  have ln_b1 : s.heap.size ≤ b1 := by have h8 := hS.1; omega
  refine q_newz hx hb (hts (.arrayClass .boolean) (by decide +kernel)) hK 201 rfl (by decide) (Nat.le_of_ble_eq_true rfl) (Nat.le_of_ble_eq_true rfl) hS dX4_both_3 (fun H1 hw9 z1 o1 hS => ?_)
  rw [← hb1] at hw9 ⊢
  replace ha := ha.old o1
  replace ha2 := ha2.old o1
  have nb1 := hw9
  have sb1 : H1.size = b1 + 1 := by omega
  refine lv_astore_n (lv' := [(2, .ref b1), (0, .ref a), (1, .ref a2)]) hx hb dX4_both_5 rfl hl (by decide) rfl (fun ls hl => ?_)
  refine lv_iconst (v := nI 0) hx hb dX4_both_6 (by decide) ?_
  refine lv_istore_n (lv' := [(3, .int (nI 0)), (2, .ref b1), (0, .ref a), (1, .ref a2)]) hx hb dX4_both_7 rfl hl (by decide) rfl (fun ls hl => ?_)
  refine q_for (fun (i : Nat) (H : Heap) (locs : List Loc) (ls : Array Slot) => va_S A s.heap H locs ∧ lv_has ls 4 [(3, .int (nI i)), (2, .ref b1), (0, .ref a), (1, .ref a2)] ∧ pAt D H a (eN (T 0) 201 zr0) ∧ pAt D H a2 (eN (T 0) 201 zr0) ∧ pAt D H b1 (eN (T 0) 201 zr0)) (N := 201) 0 (by omega) ?_ ?_ ?_
  · skip
    exact ⟨hS, lv_sub hl [0, 1, 2, 3] rfl, ha, ha2, nb1⟩
  · skip
    intro i H locs ls hi9 hin9 hnext
    obtain ⟨hS, hl, ha, ha2, nb1⟩ := hin9
    refine lv_iload_n hx hb dX4_both_8 rfl (lv_at hl 0 rfl) ?_
    refine lv_sipush (v := nI 201) hx hb dX4_both_9 (by decide) ?_
    refine lv_icmp_ge (tgt := 41) hx hb dX4_both_12 (by decide) (fun c12 => ?_) (fun c12 => ?_)
    · skip
      have c12 : 201 ≤ i := (nc_le (a := 201) (b := i) (by omega) (by omega)).mp c12
      omega
    · skip
      have c12 : ¬ (201 ≤ i) := fun q9 => c12 ((nc_le (a := 201) (b := i) (by omega) (by omega)).mpr q9)
      refine lv_aload_n hx hb dX4_both_15 rfl (lv_at hl 1 rfl) ?_
      refine lv_iload_n hx hb dX4_both_16 rfl (lv_at hl 0 rfl) ?_
      refine lv_aload_n hx hb dX4_both_17 rfl (lv_at hl 2 rfl) ?_
      refine lv_iload_n hx hb dX4_both_18 rfl (lv_at hl 0 rfl) ?_
      refine q_zald hx hb hK ha i (rfl) (by omega) (by decide) dX4_both_19 ?_
      refine W.eq (g2 := F0 m 20 ls [.int (nI 0), .int (nI i), .ref b1]) rfl ?_
      refine lv_if_eq (tgt := 33) hx hb dX4_both_20 (by decide) (fun c20 => ?_) (fun c20 => ?_)
      · skip
        have c20 : 0 = 0 := (nc_eq (a := 0) (b := 0) (by omega) (by omega)).mp c20
        refine lv_iconst (v := nI 0) hx hb dX4_both_33 (by decide) ?_
        refine q_zast hx hb hK nb1 i (rfl) (by omega) (by decide) (rfl) hS (hA _ (by omega)) dX4_both_34 (fun H1 locs1 hw9 hz oq hS => ?_)
        replace ha := ha.ne oq (by omega)
        replace ha2 := ha2.ne oq (by omega)
        have nb1 := hw9
        refine lv_iinc (v := nI (i + 1)) (lv' := [(3, .int (nI (i + 1))), (2, .ref b1), (0, .ref a), (1, .ref a2)]) hx hb dX4_both_35 hl (k := 0) rfl (inc_1 _) (by decide) rfl (fun ls hl => ?_)
        refine lv_goto (tgt := 8) hx hb dX4_both_38 (by decide) ?_
        have e1 : (eN (T 0) 201 (upd zr0 i (nI 0))) = (eN (T 0) 201 zr0) := by (rw [upd_z])
        exact hnext _ _ _ ⟨hS, lv_sub hl [0, 1, 2, 3] rfl, ha, ha2, (by rw [← e1]; exact nb1)⟩
      · skip
        have c20 : ¬ (0 = 0) := fun q9 => c20 ((nc_eq (a := 0) (b := 0) (by omega) (by omega)).mpr q9)
        omega
  · skip
    intro H locs ls hin9
    obtain ⟨hS, hl, ha, ha2, nb1⟩ := hin9
    refine lv_iload_n hx hb dX4_both_8 rfl (lv_at hl 0 rfl) ?_
    refine lv_sipush (v := nI 201) hx hb dX4_both_9 (by decide) ?_
    refine lv_icmp_ge (tgt := 41) hx hb dX4_both_12 (by decide) (fun c12 => ?_) (fun c12 => ?_)
    · skip
      have c12 : 201 ≤ 201 := (nc_le (a := 201) (b := 201) (by omega) (by omega)).mp c12
      refine lv_aload_n hx hb dX4_both_41 rfl (lv_at hl 1 rfl) ?_
      exact W.aret (v := .ref b1) hx hb hr (Or.inr ⟨_, rfl⟩) (Or.inr ⟨_, rfl⟩) (fun t ht _ => ⟨⟨(), b1, rfl, trivial, by dsimp only; rw [ht]; exact ⟨by omega, nb1⟩⟩, hS.F ht⟩) hS.2.2 dX4_both_42
    · skip
      have c12 : ¬ (201 ≤ 201) := fun q9 => c12 ((nc_le (a := 201) (b := 201) (by omega) (by omega)).mpr q9)
      omega

set_option maxHeartbeats 4000000 in
set_option maxRecDepth 100000 in
theorem conX4_spansZ (l : Launch) (D : va_G) (T : Nat → ClassId) (a : Nat) : Met l yX4_spans wsX4_spans ({ frames := 1, cells := 0, slots := 0, locals := 23 }) (cP D T [.ref a] (fun H => pAt D H a (eN (T 0) 201 zr0))) (vp_Si (fun r => r = nI 0)) 0 0 (fun _ => False) := by
  refine Met.ofW (cc := cX4_spans) (maxL := 3) (ret := (some .int)) (by decide) rfl ?_
  intro p e s m args below meth c s₁ B hml hv9
  obtain ⟨rfl, hK, ha⟩ := hv9
  have hx := B.exec
  have hb := B.bytes
  have hr := B.returns
  have hts := atoms_spec (ws := wsX4_spans) B.pre
  have hown : s.vm.findClass RX4 = some m.cls := findClass_of_methodNamed B.named
  have hlocks := B.notSynchronized
  have hl := lv_entry ([.ref a]) (n := 3) (Nat.le_of_ble_eq_true rfl)
  rw [lg_entry_eq]
  generalize (lg_sl ([.ref a]) ++ List.replicate (3 - (lg_sl ([.ref a])).length) Slot.unset).toArray = ls at hl ⊢
  have hl : lv_has ls 3 [(0, .ref a)] := hl
  refine lv_iconst (v := nI 0) hx hb dX4_spans_0 (by decide) ?_
  refine lv_istore_n (lv' := [(1, .int (nI 0)), (0, .ref a)]) hx hb dX4_spans_1 rfl hl (by decide) rfl (fun ls hl => ?_)
  refine lv_aload_n hx hb dX4_spans_2 rfl (lv_at hl 1 rfl) ?_
  refine lv_iconst (v := nI 0) hx hb dX4_spans_3 (by decide) ?_
  refine lv_iconst (v := nI 1) hx hb dX4_spans_4 (by decide) ?_
  refine vp_callSi (va_runS (As := [.ref a, .int (nI 0), .int (nI 1)]) (rest := []) ⟨hx, hb, hml, hown, hts⟩ (conX4_firstN l D T a (nI 0) (nI 1) 0 (by omega) (by decide)) (va_cwS 3 hts gX4_spans_X4_first rfl rfl rfl (by decide +kernel) ⟨Nat.le_of_ble_eq_true rfl, Nat.le_of_ble_eq_true rfl⟩) (preS hK ha) rfl rfl hl.1 rfl (lv_room (Nat.le_of_ble_eq_true rfl)) dX4_spans_5 ⟨Nat.le_of_ble_eq_true rfl, Nat.le_of_ble_eq_true rfl⟩).run (fun r1 hr1 => ?_)
  rw [hr1]
  refine lv_istore_n (lv' := [(2, .int (nI 201)), (1, .int (nI 0)), (0, .ref a)]) hx hb dX4_spans_8 rfl hl (by decide) rfl (fun ls hl => ?_)
  refine lv_iload_n hx hb dX4_spans_9 rfl (lv_at hl 0 rfl) ?_
  refine lv_sipush (v := nI 201) hx hb dX4_spans_10 (by decide) ?_
  refine lv_icmp_ge (tgt := 34) hx hb dX4_spans_13 (by decide) (fun c13 => ?_) (fun c13 => ?_)
  · skip
    have c13 : 201 ≤ 201 := (nc_le (a := 201) (b := 201) (by omega) (by omega)).mp c13
    refine lv_iload_n hx hb dX4_spans_34 rfl (lv_at hl 1 rfl) ?_
    exact W.iret (v := nI 0) hx hb hr (fun t ht _ => ⟨nI 0, rfl, by rfl, ht⟩) (fun q hq => absurd hq List.not_mem_nil) dX4_spans_35
  · skip
    have c13 : ¬ (201 ≤ 201) := fun q9 => c13 ((nc_le (a := 201) (b := 201) (by omega) (by omega)).mpr q9)
    omega

set_option maxHeartbeats 4000000 in
set_option maxRecDepth 100000 in
theorem conX4_spansO (l : Launch) (D : va_G) (T : Nat → ClassId) (a : Nat) : Met l yX4_spans wsX4_spans ({ frames := 1, cells := 0, slots := 0, locals := 23 }) (cP D T [.ref a] (fun H => pAt D H a (eN (T 0) 201 zr1))) (vp_Si (fun r => r = nI 1)) 0 0 (fun _ => False) := by
  refine Met.ofW (cc := cX4_spans) (maxL := 3) (ret := (some .int)) (by decide) rfl ?_
  intro p e s m args below meth c s₁ B hml hv9
  obtain ⟨rfl, hK, ha⟩ := hv9
  have hx := B.exec
  have hb := B.bytes
  have hr := B.returns
  have hts := atoms_spec (ws := wsX4_spans) B.pre
  have hown : s.vm.findClass RX4 = some m.cls := findClass_of_methodNamed B.named
  have hlocks := B.notSynchronized
  have hl := lv_entry ([.ref a]) (n := 3) (Nat.le_of_ble_eq_true rfl)
  rw [lg_entry_eq]
  generalize (lg_sl ([.ref a]) ++ List.replicate (3 - (lg_sl ([.ref a])).length) Slot.unset).toArray = ls at hl ⊢
  have hl : lv_has ls 3 [(0, .ref a)] := hl
  refine lv_iconst (v := nI 0) hx hb dX4_spans_0 (by decide) ?_
  refine lv_istore_n (lv' := [(1, .int (nI 0)), (0, .ref a)]) hx hb dX4_spans_1 rfl hl (by decide) rfl (fun ls hl => ?_)
  refine lv_aload_n hx hb dX4_spans_2 rfl (lv_at hl 1 rfl) ?_
  refine lv_iconst (v := nI 0) hx hb dX4_spans_3 (by decide) ?_
  refine lv_iconst (v := nI 1) hx hb dX4_spans_4 (by decide) ?_
  refine vp_callSi (va_runS (As := [.ref a, .int (nI 0), .int (nI 1)]) (rest := []) ⟨hx, hb, hml, hown, hts⟩ (conX4_firstY l D T a (nI 1) 0 (by omega)) (va_cwS 3 hts gX4_spans_X4_first rfl rfl rfl (by decide +kernel) ⟨Nat.le_of_ble_eq_true rfl, Nat.le_of_ble_eq_true rfl⟩) (preS hK ha) rfl rfl hl.1 rfl (lv_room (Nat.le_of_ble_eq_true rfl)) dX4_spans_5 ⟨Nat.le_of_ble_eq_true rfl, Nat.le_of_ble_eq_true rfl⟩).run (fun r1 hr1 => ?_)
  rw [hr1]
  refine lv_istore_n (lv' := [(2, .int (nI 0)), (1, .int (nI 0)), (0, .ref a)]) hx hb dX4_spans_8 rfl hl (by decide) rfl (fun ls hl => ?_)
  refine lv_iload_n hx hb dX4_spans_9 rfl (lv_at hl 0 rfl) ?_
  refine lv_sipush (v := nI 201) hx hb dX4_spans_10 (by decide) ?_
  refine lv_icmp_ge (tgt := 34) hx hb dX4_spans_13 (by decide) (fun c13 => ?_) (fun c13 => ?_)
  · skip
    have c13 : 201 ≤ 0 := (nc_le (a := 201) (b := 0) (by omega) (by omega)).mp c13
    omega
  · skip
    have c13 : ¬ (201 ≤ 0) := fun q9 => c13 ((nc_le (a := 201) (b := 0) (by omega) (by omega)).mpr q9)
    refine lv_iinc (v := nI 1) (lv' := [(1, .int (nI 1)), (2, .int (nI 0)), (0, .ref a)]) hx hb dX4_spans_16 hl (k := 1) rfl (inc_1 _) (by decide) rfl (fun ls hl => ?_)
    refine lv_aload_n hx hb dX4_spans_19 rfl (lv_at hl 2 rfl) ?_
    refine lv_aload_n hx hb dX4_spans_20 rfl (lv_at hl 2 rfl) ?_
    refine lv_iload_n hx hb dX4_spans_21 rfl (lv_at hl 1 rfl) ?_
    refine lv_iconst (v := nI 0) hx hb dX4_spans_22 (by decide) ?_
    refine vp_callSi (va_runS (As := [.ref a, .int (nI 0), .int (nI 0)]) (rest := [.ref a]) ⟨hx, hb, hml, hown, hts⟩ (conX4_firstN l D T a (nI 1) (nI 0) 0 (by omega) (by decide)) (va_cwS 3 hts gX4_spans_X4_first rfl rfl rfl (by decide +kernel) ⟨Nat.le_of_ble_eq_true rfl, Nat.le_of_ble_eq_true rfl⟩) (preS hK ha) rfl rfl hl.1 rfl (lv_room (Nat.le_of_ble_eq_true rfl)) dX4_spans_23 ⟨Nat.le_of_ble_eq_true rfl, Nat.le_of_ble_eq_true rfl⟩).run (fun r2 hr2 => ?_)
    rw [hr2]
    refine lv_iconst (v := nI 1) hx hb dX4_spans_26 (by decide) ?_
    refine vp_callSi (va_runS (As := [.ref a, .int (nI 201), .int (nI 1)]) (rest := []) ⟨hx, hb, hml, hown, hts⟩ (conX4_firstY l D T a (nI 1) 201 (by omega)) (va_cwS 3 hts gX4_spans_X4_first rfl rfl rfl (by decide +kernel) ⟨Nat.le_of_ble_eq_true rfl, Nat.le_of_ble_eq_true rfl⟩) (preS hK ha) rfl rfl hl.1 rfl (lv_room (Nat.le_of_ble_eq_true rfl)) dX4_spans_27 ⟨Nat.le_of_ble_eq_true rfl, Nat.le_of_ble_eq_true rfl⟩).run (fun r3 hr3 => ?_)
    rw [hr3]
    refine lv_istore_n (lv' := [(2, .int (nI 201)), (1, .int (nI 1)), (0, .ref a)]) hx hb dX4_spans_30 rfl hl (by decide) rfl (fun ls hl => ?_)
    refine lv_goto (tgt := 9) hx hb dX4_spans_31 (by decide) ?_
    refine lv_iload_n hx hb dX4_spans_9 rfl (lv_at hl 0 rfl) ?_
    refine lv_sipush (v := nI 201) hx hb dX4_spans_10 (by decide) ?_
    refine lv_icmp_ge (tgt := 34) hx hb dX4_spans_13 (by decide) (fun c13 => ?_) (fun c13 => ?_)
    · skip
      have c13 : 201 ≤ 201 := (nc_le (a := 201) (b := 201) (by omega) (by omega)).mp c13
      refine lv_iload_n hx hb dX4_spans_34 rfl (lv_at hl 1 rfl) ?_
      exact W.iret (v := nI 1) hx hb hr (fun t ht _ => ⟨nI 1, rfl, by rfl, ht⟩) (fun q hq => absurd hq List.not_mem_nil) dX4_spans_35
    · skip
      have c13 : ¬ (201 ≤ 201) := fun q9 => c13 ((nc_le (a := 201) (b := 201) (by omega) (by omega)).mpr q9)
      omega

set_option maxHeartbeats 4000000 in
set_option maxRecDepth 100000 in
theorem conX4_longOf (l : Launch) (D : va_G) (T : Nat → ClassId) (a b : Nat) (hab : a ≤ b) (hb9 : b ≤ 201) : Met l yX4_longOf wsX4_longOf ({ frames := 0, cells := 0, slots := 0, locals := 0 }) (cP D T [.int (nI a), .int (nI b)] (fun H => True)) (vp_Si (fun r => r = nI ((b + 1) / 2 - a / 2))) 0 0 (fun _ => False) := by
  refine Met.ofW (cc := cX4_longOf) (maxL := 2) (ret := (some .int)) (by decide) rfl ?_
  intro p e s m args below meth c s₁ B hml hv9
  obtain ⟨rfl, hK, -⟩ := hv9
  have hx := B.exec
  have hb := B.bytes
  have hr := B.returns
  have hts := atoms_spec (ws := wsX4_longOf) B.pre
  have hown : s.vm.findClass RX4 = some m.cls := findClass_of_methodNamed B.named
  have hlocks := B.notSynchronized
  have hl := lv_entry ([.int (nI a), .int (nI b)]) (n := 2) (Nat.le_of_ble_eq_true rfl)
  rw [lg_entry_eq]
  generalize (lg_sl ([.int (nI a), .int (nI b)]) ++ List.replicate (2 - (lg_sl ([.int (nI a), .int (nI b)])).length) Slot.unset).toArray = ls at hl ⊢
  have hl : lv_has ls 2 [(0, .int (nI a)), (1, .int (nI b))] := hl
  refine lv_iload_n hx hb dX4_longOf_0 rfl (lv_at hl 1 rfl) ?_
  refine lv_iconst (v := nI 1) hx hb dX4_longOf_1 (by decide) ?_
  refine lv_iadd hx hb dX4_longOf_2 ?_
  rw [nI_add]
  refine lv_iconst (v := nI 2) hx hb dX4_longOf_3 (by decide) ?_
  refine lv_idiv hx hb dX4_longOf_4 (by decide) ?_
  rw [pk_div (a := b + 1) (d := 2) (by omega) (by omega) (by omega)]
  refine lv_iload_n hx hb dX4_longOf_5 rfl (lv_at hl 0 rfl) ?_
  refine lv_iconst (v := nI 2) hx hb dX4_longOf_6 (by decide) ?_
  refine lv_idiv hx hb dX4_longOf_7 (by decide) ?_
  rw [pk_div (a := a) (d := 2) (by omega) (by omega) (by omega)]
  refine lv_isub hx hb dX4_longOf_8 ?_
  rw [pk_sub (a := (b + 1) / 2) (b := a / 2) (by omega)]
  exact W.iret (v := nI (((b + 1) / 2) - (a / 2))) hx hb hr (fun t ht _ => ⟨nI (((b + 1) / 2) - (a / 2)), rfl, by rfl, ht⟩) (fun q hq => absurd hq List.not_mem_nil) dX4_longOf_9

set_option maxHeartbeats 4000000 in
set_option maxRecDepth 100000 in
theorem conX4_longestZ (l : Launch) (D : va_G) (T : Nat → ClassId) (a : Nat) : Met l yX4_longest wsX4_longest ({ frames := 1, cells := 0, slots := 0, locals := 23 }) (cP D T [.ref a] (fun H => pAt D H a (eN (T 0) 201 zr0))) (vp_Si (fun r => r = nI 0)) 0 0 (fun _ => False) := by
  refine Met.ofW (cc := cX4_longest) (maxL := 3) (ret := (some .int)) (by decide) rfl ?_
  intro p e s m args below meth c s₁ B hml hv9
  obtain ⟨rfl, hK, ha⟩ := hv9
  have hx := B.exec
  have hb := B.bytes
  have hr := B.returns
  have hts := atoms_spec (ws := wsX4_longest) B.pre
  have hown : s.vm.findClass RX4 = some m.cls := findClass_of_methodNamed B.named
  have hlocks := B.notSynchronized
  have hl := lv_entry ([.ref a]) (n := 3) (Nat.le_of_ble_eq_true rfl)
  rw [lg_entry_eq]
  generalize (lg_sl ([.ref a]) ++ List.replicate (3 - (lg_sl ([.ref a])).length) Slot.unset).toArray = ls at hl ⊢
  have hl : lv_has ls 3 [(0, .ref a)] := hl
  refine lv_iconst (v := nI 0) hx hb dX4_longest_0 (by decide) ?_
  refine lv_istore_n (lv' := [(1, .int (nI 0)), (0, .ref a)]) hx hb dX4_longest_1 rfl hl (by decide) rfl (fun ls hl => ?_)
  refine lv_aload_n hx hb dX4_longest_2 rfl (lv_at hl 1 rfl) ?_
  refine lv_iconst (v := nI 0) hx hb dX4_longest_3 (by decide) ?_
  refine lv_iconst (v := nI 1) hx hb dX4_longest_4 (by decide) ?_
  refine vp_callSi (va_runS (As := [.ref a, .int (nI 0), .int (nI 1)]) (rest := []) ⟨hx, hb, hml, hown, hts⟩ (conX4_firstN l D T a (nI 0) (nI 1) 0 (by omega) (by decide)) (va_cwS 3 hts gX4_longest_X4_first rfl rfl rfl (by decide +kernel) ⟨Nat.le_of_ble_eq_true rfl, Nat.le_of_ble_eq_true rfl⟩) (preS hK ha) rfl rfl hl.1 rfl (lv_room (Nat.le_of_ble_eq_true rfl)) dX4_longest_5 ⟨Nat.le_of_ble_eq_true rfl, Nat.le_of_ble_eq_true rfl⟩).run (fun r1 hr1 => ?_)
  rw [hr1]
  refine lv_istore_n (lv' := [(2, .int (nI 201)), (1, .int (nI 0)), (0, .ref a)]) hx hb dX4_longest_8 rfl hl (by decide) rfl (fun ls hl => ?_)
  refine lv_iload_n hx hb dX4_longest_9 rfl (lv_at hl 0 rfl) ?_
  refine lv_sipush (v := nI 201) hx hb dX4_longest_10 (by decide) ?_
  refine lv_icmp_ge (tgt := 48) hx hb dX4_longest_13 (by decide) (fun c13 => ?_) (fun c13 => ?_)
  · skip
    have c13 : 201 ≤ 201 := (nc_le (a := 201) (b := 201) (by omega) (by omega)).mp c13
    refine lv_iload_n hx hb dX4_longest_48 rfl (lv_at hl 1 rfl) ?_
    exact W.iret (v := nI 0) hx hb hr (fun t ht _ => ⟨nI 0, rfl, by rfl, ht⟩) (fun q hq => absurd hq List.not_mem_nil) dX4_longest_49
  · skip
    have c13 : ¬ (201 ≤ 201) := fun q9 => c13 ((nc_le (a := 201) (b := 201) (by omega) (by omega)).mpr q9)
    omega

set_option maxHeartbeats 4000000 in
set_option maxRecDepth 100000 in
theorem conX4_longestO (l : Launch) (D : va_G) (T : Nat → ClassId) (a : Nat) : Met l yX4_longest wsX4_longest ({ frames := 1, cells := 0, slots := 0, locals := 23 }) (cP D T [.ref a] (fun H => pAt D H a (eN (T 0) 201 zr1))) (vp_Si (fun r => r = nI 100)) 0 0 (fun _ => False) := by
  refine Met.ofW (cc := cX4_longest) (maxL := 3) (ret := (some .int)) (by decide) rfl ?_
  intro p e s m args below meth c s₁ B hml hv9
  obtain ⟨rfl, hK, ha⟩ := hv9
  have hx := B.exec
  have hb := B.bytes
  have hr := B.returns
  have hts := atoms_spec (ws := wsX4_longest) B.pre
  have hown : s.vm.findClass RX4 = some m.cls := findClass_of_methodNamed B.named
  have hlocks := B.notSynchronized
  have hl := lv_entry ([.ref a]) (n := 3) (Nat.le_of_ble_eq_true rfl)
  rw [lg_entry_eq]
  generalize (lg_sl ([.ref a]) ++ List.replicate (3 - (lg_sl ([.ref a])).length) Slot.unset).toArray = ls at hl ⊢
  have hl : lv_has ls 3 [(0, .ref a)] := hl
  refine lv_iconst (v := nI 0) hx hb dX4_longest_0 (by decide) ?_
  refine lv_istore_n (lv' := [(1, .int (nI 0)), (0, .ref a)]) hx hb dX4_longest_1 rfl hl (by decide) rfl (fun ls hl => ?_)
  refine lv_aload_n hx hb dX4_longest_2 rfl (lv_at hl 1 rfl) ?_
  refine lv_iconst (v := nI 0) hx hb dX4_longest_3 (by decide) ?_
  refine lv_iconst (v := nI 1) hx hb dX4_longest_4 (by decide) ?_
  refine vp_callSi (va_runS (As := [.ref a, .int (nI 0), .int (nI 1)]) (rest := []) ⟨hx, hb, hml, hown, hts⟩ (conX4_firstY l D T a (nI 1) 0 (by omega)) (va_cwS 3 hts gX4_longest_X4_first rfl rfl rfl (by decide +kernel) ⟨Nat.le_of_ble_eq_true rfl, Nat.le_of_ble_eq_true rfl⟩) (preS hK ha) rfl rfl hl.1 rfl (lv_room (Nat.le_of_ble_eq_true rfl)) dX4_longest_5 ⟨Nat.le_of_ble_eq_true rfl, Nat.le_of_ble_eq_true rfl⟩).run (fun r1 hr1 => ?_)
  rw [hr1]
  refine lv_istore_n (lv' := [(2, .int (nI 0)), (1, .int (nI 0)), (0, .ref a)]) hx hb dX4_longest_8 rfl hl (by decide) rfl (fun ls hl => ?_)
  refine lv_iload_n hx hb dX4_longest_9 rfl (lv_at hl 0 rfl) ?_
  refine lv_sipush (v := nI 201) hx hb dX4_longest_10 (by decide) ?_
  refine lv_icmp_ge (tgt := 48) hx hb dX4_longest_13 (by decide) (fun c13 => ?_) (fun c13 => ?_)
  · skip
    have c13 : 201 ≤ 0 := (nc_le (a := 201) (b := 0) (by omega) (by omega)).mp c13
    omega
  · skip
    have c13 : ¬ (201 ≤ 0) := fun q9 => c13 ((nc_le (a := 201) (b := 0) (by omega) (by omega)).mpr q9)
    refine lv_iload_n hx hb dX4_longest_16 rfl (lv_at hl 1 rfl) ?_
    refine lv_iload_n hx hb dX4_longest_17 rfl (lv_at hl 0 rfl) ?_
    refine lv_aload_n hx hb dX4_longest_18 rfl (lv_at hl 2 rfl) ?_
    refine lv_iload_n hx hb dX4_longest_19 rfl (lv_at hl 0 rfl) ?_
    refine lv_iconst (v := nI 0) hx hb dX4_longest_20 (by decide) ?_
    refine vp_callSi (va_runS (As := [.ref a, .int (nI 0), .int (nI 0)]) (rest := [.int (nI 0), .int (nI 0)]) ⟨hx, hb, hml, hown, hts⟩ (conX4_firstN l D T a (nI 1) (nI 0) 0 (by omega) (by decide)) (va_cwS 3 hts gX4_longest_X4_first rfl rfl rfl (by decide +kernel) ⟨Nat.le_of_ble_eq_true rfl, Nat.le_of_ble_eq_true rfl⟩) (preS hK ha) rfl rfl hl.1 rfl (lv_room (Nat.le_of_ble_eq_true rfl)) dX4_longest_21 ⟨Nat.le_of_ble_eq_true rfl, Nat.le_of_ble_eq_true rfl⟩).run (fun r2 hr2 => ?_)
    rw [hr2]
    refine lv_iconst (v := nI 1) hx hb dX4_longest_24 (by decide) ?_
    refine lv_isub hx hb dX4_longest_25 ?_
    rw [pk_sub (a := 201) (b := 1) (by omega)]
    refine vp_callSi (va_runS (As := [.int (nI 0), .int (nI 200)]) (rest := [.int (nI 0)]) ⟨hx, hb, hml, hown, hts⟩ (conX4_longOf l D T 0 200 (by omega) (by omega)) (va_cwS 2 hts gX4_longest_X4_longOf rfl rfl rfl (by decide +kernel) ⟨Nat.le_of_ble_eq_true rfl, Nat.le_of_ble_eq_true rfl⟩) (preS hK trivial) rfl rfl hl.1 rfl (lv_room (Nat.le_of_ble_eq_true rfl)) dX4_longest_26 ⟨Nat.le_of_ble_eq_true rfl, Nat.le_of_ble_eq_true rfl⟩).run (fun r3 hr3 => ?_)
    rw [hr3]
    rw [show nI ((200 + 1) / 2 - 0 / 2) = nI 100 from rfl]
    refine va_mmax hx hb (hml.trans hl.1.symm) hown (hts (.methodLink RX4 35 Lib.Math.max.name) (by decide +kernel)) (hts (.static Lib.Math.max.name) (by decide +kernel)) (hts (.initialized "java/lang/Math") (by decide +kernel)) (hts (.code Lib.Math.max.name Lib.Math.max.code 2 (some .int)) (by decide +kernel)) (Nat.le_of_ble_eq_true rfl) (Nat.le_of_ble_eq_true rfl) (Nat.le_of_ble_eq_true rfl) (Nat.le_of_ble_eq_true rfl) dX4_longest_29 ?_
    refine W.eq (g2 := F0 m 32 ls [.int (jmax (nI 0) (nI 100))]) rfl ?_
    rw [jmax_nat (a := 0) (b := 100) (by omega) (by omega)]
    refine lv_istore_n (lv' := [(1, .int (nI 100)), (2, .int (nI 0)), (0, .ref a)]) hx hb dX4_longest_32 rfl hl (by decide) rfl (fun ls hl => ?_)
    refine lv_aload_n hx hb dX4_longest_33 rfl (lv_at hl 2 rfl) ?_
    refine lv_aload_n hx hb dX4_longest_34 rfl (lv_at hl 2 rfl) ?_
    refine lv_iload_n hx hb dX4_longest_35 rfl (lv_at hl 1 rfl) ?_
    refine lv_iconst (v := nI 0) hx hb dX4_longest_36 (by decide) ?_
    refine vp_callSi (va_runS (As := [.ref a, .int (nI 0), .int (nI 0)]) (rest := [.ref a]) ⟨hx, hb, hml, hown, hts⟩ (conX4_firstN l D T a (nI 1) (nI 0) 0 (by omega) (by decide)) (va_cwS 3 hts gX4_longest_X4_first rfl rfl rfl (by decide +kernel) ⟨Nat.le_of_ble_eq_true rfl, Nat.le_of_ble_eq_true rfl⟩) (preS hK ha) rfl rfl hl.1 rfl (lv_room (Nat.le_of_ble_eq_true rfl)) dX4_longest_37 ⟨Nat.le_of_ble_eq_true rfl, Nat.le_of_ble_eq_true rfl⟩).run (fun r4 hr4 => ?_)
    rw [hr4]
    refine lv_iconst (v := nI 1) hx hb dX4_longest_40 (by decide) ?_
    refine vp_callSi (va_runS (As := [.ref a, .int (nI 201), .int (nI 1)]) (rest := []) ⟨hx, hb, hml, hown, hts⟩ (conX4_firstY l D T a (nI 1) 201 (by omega)) (va_cwS 3 hts gX4_longest_X4_first rfl rfl rfl (by decide +kernel) ⟨Nat.le_of_ble_eq_true rfl, Nat.le_of_ble_eq_true rfl⟩) (preS hK ha) rfl rfl hl.1 rfl (lv_room (Nat.le_of_ble_eq_true rfl)) dX4_longest_41 ⟨Nat.le_of_ble_eq_true rfl, Nat.le_of_ble_eq_true rfl⟩).run (fun r5 hr5 => ?_)
    rw [hr5]
    refine lv_istore_n (lv' := [(2, .int (nI 201)), (1, .int (nI 100)), (0, .ref a)]) hx hb dX4_longest_44 rfl hl (by decide) rfl (fun ls hl => ?_)
    refine lv_goto (tgt := 9) hx hb dX4_longest_45 (by decide) ?_
    refine lv_iload_n hx hb dX4_longest_9 rfl (lv_at hl 0 rfl) ?_
    refine lv_sipush (v := nI 201) hx hb dX4_longest_10 (by decide) ?_
    refine lv_icmp_ge (tgt := 48) hx hb dX4_longest_13 (by decide) (fun c13 => ?_) (fun c13 => ?_)
    · skip
      have c13 : 201 ≤ 201 := (nc_le (a := 201) (b := 201) (by omega) (by omega)).mp c13
      refine lv_iload_n hx hb dX4_longest_48 rfl (lv_at hl 1 rfl) ?_
      exact W.iret (v := nI 100) hx hb hr (fun t ht _ => ⟨nI 100, rfl, by rfl, ht⟩) (fun q hq => absurd hq List.not_mem_nil) dX4_longest_49
    · skip
      have c13 : ¬ (201 ≤ 201) := fun q9 => c13 ((nc_le (a := 201) (b := 201) (by omega) (by omega)).mpr q9)
      omega

set_option maxHeartbeats 4000000 in
set_option maxRecDepth 100000 in
theorem conX4_begin (l : Launch) (D : va_G) (T : Nat → ClassId) (a : Nat) (x : Int32) : Met l yX4_begin wsX4_begin ({ frames := 1, cells := 0, slots := 0, locals := 23 }) (cP D T [.ref a, .int x] (fun H => pAt D H a (eN (T 0) 201 zr0))) (vp_Si (fun r => r = nI 201)) 0 0 (fun _ => False) := by
  refine Met.ofW (cc := cX4_begin) (maxL := 4) (ret := (some .int)) (by decide) rfl ?_
  intro p e s m args below meth c s₁ B hml hv9
  obtain ⟨rfl, hK, ha⟩ := hv9
  have hx := B.exec
  have hb := B.bytes
  have hr := B.returns
  have hts := atoms_spec (ws := wsX4_begin) B.pre
  have hown : s.vm.findClass RX4 = some m.cls := findClass_of_methodNamed B.named
  have hlocks := B.notSynchronized
  have hl := lv_entry ([.ref a, .int x]) (n := 4) (Nat.le_of_ble_eq_true rfl)
  rw [lg_entry_eq]
  generalize (lg_sl ([.ref a, .int x]) ++ List.replicate (4 - (lg_sl ([.ref a, .int x])).length) Slot.unset).toArray = ls at hl ⊢
  have hl : lv_has ls 4 [(0, .ref a), (1, .int x)] := hl
  refine lv_aload_n hx hb dX4_begin_0 rfl (lv_at hl 0 rfl) ?_
  refine lv_iconst (v := nI 0) hx hb dX4_begin_1 (by decide) ?_
  refine lv_iconst (v := nI 1) hx hb dX4_begin_2 (by decide) ?_
  refine vp_callSi (va_runS (As := [.ref a, .int (nI 0), .int (nI 1)]) (rest := []) ⟨hx, hb, hml, hown, hts⟩ (conX4_firstN l D T a (nI 0) (nI 1) 0 (by omega) (by decide)) (va_cwS 3 hts gX4_begin_X4_first rfl rfl rfl (by decide +kernel) ⟨Nat.le_of_ble_eq_true rfl, Nat.le_of_ble_eq_true rfl⟩) (preS hK ha) rfl rfl hl.1 rfl (lv_room (Nat.le_of_ble_eq_true rfl)) dX4_begin_3 ⟨Nat.le_of_ble_eq_true rfl, Nat.le_of_ble_eq_true rfl⟩).run (fun r1 hr1 => ?_)
  rw [hr1]
  refine lv_istore_n (lv' := [(2, .int (nI 201)), (0, .ref a), (1, .int x)]) hx hb dX4_begin_6 rfl hl (by decide) rfl (fun ls hl => ?_)
  refine lv_iconst (v := nI 0) hx hb dX4_begin_7 (by decide) ?_
  refine lv_istore_n (lv' := [(3, .int (nI 0)), (2, .int (nI 201)), (0, .ref a), (1, .int x)]) hx hb dX4_begin_8 rfl hl (by decide) rfl (fun ls hl => ?_)
  refine lv_iload_n hx hb dX4_begin_9 rfl (lv_at hl 0 rfl) ?_
  refine lv_iload_n hx hb dX4_begin_10 rfl (lv_at hl 3 rfl) ?_
  refine lv_icmp_ge (tgt := 39) hx hb dX4_begin_11 (by decide) (fun c11 => ?_) (fun c11 => ?_)
  · skip
    refine lv_iload_n hx hb dX4_begin_39 rfl (lv_at hl 1 rfl) ?_
    exact W.iret (v := nI 201) hx hb hr (fun t ht _ => ⟨nI 201, rfl, by rfl, ht⟩) (fun q hq => absurd hq List.not_mem_nil) dX4_begin_40
  · skip
    refine lv_iload_n hx hb dX4_begin_14 rfl (lv_at hl 1 rfl) ?_
    refine lv_sipush (v := nI 201) hx hb dX4_begin_15 (by decide) ?_
    refine lv_icmp_ge (tgt := 39) hx hb dX4_begin_18 (by decide) (fun c18 => ?_) (fun c18 => ?_)
    · skip
      have c18 : 201 ≤ 201 := (nc_le (a := 201) (b := 201) (by omega) (by omega)).mp c18
      refine lv_iload_n hx hb dX4_begin_39 rfl (lv_at hl 1 rfl) ?_
      exact W.iret (v := nI 201) hx hb hr (fun t ht _ => ⟨nI 201, rfl, by rfl, ht⟩) (fun q hq => absurd hq List.not_mem_nil) dX4_begin_40
    · skip
      have c18 : ¬ (201 ≤ 201) := fun q9 => c18 ((nc_le (a := 201) (b := 201) (by omega) (by omega)).mpr q9)
      omega
