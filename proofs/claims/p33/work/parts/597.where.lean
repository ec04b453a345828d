/-! STONES: WHERE -/
set_option maxHeartbeats 4000000 in
set_option maxRecDepth 100000 in
theorem conX4_where (l : Launch) (D : va_G) (T : Nat → ClassId) (ad : Nat → Nat) (o sc N : Nat) (sf : Nat → Int32) (d : Nat) (hN : N < 2 ^ 30) (hd : d + 20 < 2 ^ 30) : Met l yX4_where wsX4_where ({ frames := 3, cells := 404, slots := 21105, locals := 105 }) (cP D T [.ref o] (fun H => ST D T ad o sc N sf d H)) (va_Qi (fun (r : Int32) (_ : Unit) => r = nI 1) (fun _ t => ST D T ad o sc N sf (d + 10) t.heap) (fun z : Nat => o ≤ z)) 404 21105 (fun z : Nat => o ≤ z) := by
  refine Met.ofW (cc := cX4_where) (maxL := 7) (ret := (some .boolean)) (by decide) rfl ?_
  intro p e s m args below meth c s₁ B hml hv9
  obtain ⟨rfl, hK, ⟨dr, F, V, sr, C, L, U, la, vv, hdr, ho9, hw, hinv⟩⟩ := hv9
  have hx := B.exec
  have hb := B.bytes
  have hr := B.returns
  have hts := atoms_spec (ws := wsX4_where) B.pre
  have hown : s.vm.findClass RX4 = some m.cls := findClass_of_methodNamed B.named
  have hlocks := B.notSynchronized
  have hin4 : ∀ w ∈ wsX40, w ∈ wsX4_where := by decide +kernel
  generalize hAe : (fun z : Nat => o ≤ z) = A
  have hA : ∀ z : Nat, o ≤ z → A z := fun z h9 => by subst hAe; exact h9
  have hS : va_S A s.heap s.heap [] := va_S.rf
  have hl := lv_entry ([.ref o]) (n := 7) (Nat.le_of_ble_eq_true rfl)
  rw [lg_entry_eq]
  generalize (lg_sl ([.ref o]) ++ List.replicate (7 - (lg_sl ([.ref o])).length) Slot.unset).toArray = ls at hl ⊢
  have hl : lv_has ls 7 [(0, .ref o)] := hl
  have hA_o : A o := hA o (Nat.le_refl _)
  have hlt9 := hw.lt
  refine lv_aload_n hx hb dX4_where_0 rfl (lv_at hl 0 rfl) ?_
  refine lv_bipush (v := nI 8) hx hb dX4_where_1 (by decide) ?_
  refine va_calli (va_runV (As := [.int (nI 8)]) (rest := []) ⟨hx, hb, hml, hown, hts⟩ (conX4_draw l D T ad o sc N sf dr F V sr C L U la vv (by omega) (by omega) 8 (by omega) (by omega)) (cwV 1 hts gX4_where_X4_draw rfl rfl rfl (by decide +kernel) ⟨Nat.le_of_ble_eq_true rfl, Nat.le_of_ble_eq_true rfl⟩) (preV hK hw.ob rfl hw) rfl rfl hl.1 rfl (lv_room (Nat.le_of_ble_eq_true rfl)) dX4_where_3 ⟨Nat.le_of_ble_eq_true rfl, Nat.le_of_ble_eq_true rfl⟩) hS (fun q _ h9 => (by have h8 : q = o := h9; rw [h8]; exact hA_o)) (fun q h9 => (by have h8 : q = o := h9; rw [h8]; exact hA_o)) (fun r u t H1 locs1 ht hvm hw9 hB hz1 hk1 hS => ?_)
  try dsimp only at hB
  rw [ht] at hB
  obtain ⟨k1, hk1, rfl⟩ := hw9
  replace hw := hB
  refine lv_istore_n (lv' := [(1, .int (nI k1)), (0, .ref o)]) hx hb dX4_where_6 rfl hl (by decide) rfl (fun ls hl => ?_)
  refine lv_aload_n hx hb dX4_where_7 rfl (lv_at hl 1 rfl) ?_
  refine lv_iconst (v := nI 5) hx hb dX4_where_8 (by decide) ?_
  refine va_calli (va_runV (As := [.int (nI 5)]) (rest := []) ⟨hx, hb, hml, hown, hts⟩ (conX4_draw l D T ad o sc N sf (dr + 1) F V sr C L U la vv (by omega) (by omega) 5 (by omega) (by omega)) (cwV 1 hts gX4_where_X4_draw rfl rfl rfl (by decide +kernel) ⟨Nat.le_of_ble_eq_true rfl, Nat.le_of_ble_eq_true rfl⟩) (preV hK hw.ob rfl hw) rfl rfl hl.1 rfl (lv_room (Nat.le_of_ble_eq_true rfl)) dX4_where_9 ⟨Nat.le_of_ble_eq_true rfl, Nat.le_of_ble_eq_true rfl⟩) hS (fun q _ h9 => (by have h8 : q = o := h9; rw [h8]; exact hA_o)) (fun q h9 => (by have h8 : q = o := h9; rw [h8]; exact hA_o)) (fun r u t H1 locs1 ht hvm hw9 hB hz1 hk1 hS => ?_)
  try dsimp only at hB
  rw [ht] at hB
  obtain ⟨k2, hk2, rfl⟩ := hw9
  replace hw := hB
  refine lv_istore_n (lv' := [(2, .int (nI k2)), (1, .int (nI k1)), (0, .ref o)]) hx hb dX4_where_12 rfl hl (by decide) rfl (fun ls hl => ?_)
  refine lv_aload_n hx hb dX4_where_13 rfl (lv_at hl 2 rfl) ?_
  refine lv_bipush (v := nI 20) hx hb dX4_where_14 (by decide) ?_
  refine va_calli (va_runV (As := [.int (nI 20)]) (rest := []) ⟨hx, hb, hml, hown, hts⟩ (conX4_draw l D T ad o sc N sf (dr + 1 + 1) F V sr C L U la vv (by omega) (by omega) 20 (by omega) (by omega)) (cwV 1 hts gX4_where_X4_draw rfl rfl rfl (by decide +kernel) ⟨Nat.le_of_ble_eq_true rfl, Nat.le_of_ble_eq_true rfl⟩) (preV hK hw.ob rfl hw) rfl rfl hl.1 rfl (lv_room (Nat.le_of_ble_eq_true rfl)) dX4_where_16 ⟨Nat.le_of_ble_eq_true rfl, Nat.le_of_ble_eq_true rfl⟩) hS (fun q _ h9 => (by have h8 : q = o := h9; rw [h8]; exact hA_o)) (fun q h9 => (by have h8 : q = o := h9; rw [h8]; exact hA_o)) (fun r u t H1 locs1 ht hvm hw9 hB hz1 hk1 hS => ?_)
  try dsimp only at hB
  rw [ht] at hB
  obtain ⟨k3, hk3, rfl⟩ := hw9
  replace hw := hB
  refine lv_iconst (v := nI 5) hx hb dX4_where_19 (by decide) ?_
  refine lv_isub hx hb dX4_where_20 ?_
  refine lv_istore_n (lv' := [(3, .int ((nI k3) - (nI 5))), (2, .int (nI k2)), (1, .int (nI k1)), (0, .ref o)]) hx hb dX4_where_21 rfl hl (by decide) rfl (fun ls hl => ?_)
  refine lv_iload_n hx hb dX4_where_22 rfl (lv_at hl 0 rfl) ?_
  refine lv_aload_n hx hb dX4_where_23 rfl (lv_at hl 3 rfl) ?_
  refine lv_bipush (v := nI 12) hx hb dX4_where_24 (by decide) ?_
  refine va_calli (va_runV (As := [.int (nI 12)]) (rest := [.int ((nI k3) - (nI 5))]) ⟨hx, hb, hml, hown, hts⟩ (conX4_draw l D T ad o sc N sf (dr + 1 + 1 + 1) F V sr C L U la vv (by omega) (by omega) 12 (by omega) (by omega)) (cwV 1 hts gX4_where_X4_draw rfl rfl rfl (by decide +kernel) ⟨Nat.le_of_ble_eq_true rfl, Nat.le_of_ble_eq_true rfl⟩) (preV hK hw.ob rfl hw) rfl rfl hl.1 rfl (lv_room (Nat.le_of_ble_eq_true rfl)) dX4_where_26 ⟨Nat.le_of_ble_eq_true rfl, Nat.le_of_ble_eq_true rfl⟩) hS (fun q _ h9 => (by have h8 : q = o := h9; rw [h8]; exact hA_o)) (fun q h9 => (by have h8 : q = o := h9; rw [h8]; exact hA_o)) (fun r u t H1 locs1 ht hvm hw9 hB hz1 hk1 hS => ?_)
  try dsimp only at hB
  rw [ht] at hB
  obtain ⟨k4, hk4, rfl⟩ := hw9
  replace hw := hB
  refine lv_iadd hx hb dX4_where_29 ?_
  refine lv_iconst (v := nI 1) hx hb dX4_where_30 (by decide) ?_
  refine lv_isub hx hb dX4_where_31 ?_
  refine lv_istore (lv' := [(4, .int ((((nI k3) - (nI 5)) + (nI k4)) - (nI 1))), (3, .int ((nI k3) - (nI 5))), (2, .int (nI k2)), (1, .int (nI k1)), (0, .ref o)]) hx hb dX4_where_32 hl (by decide) rfl (fun ls hl => ?_)
  refine lv_sipush (v := nI 201) hx hb dX4_where_34 (by decide) ?_
  obtain ⟨Hw, hHw⟩ : ∃ z : Heap, z = H1 := ⟨_, rfl⟩
  obtain ⟨b1, hb1⟩ : ∃ z : Nat, z = H1.size := ⟨_, rfl⟩
  have ln_b1 : s.heap.size ≤ b1 := by have h8 := hS.1; omega
  have lw_b1 : Hw.size ≤ b1 := by rw [hHw]; omega
  refine q_newz hx hb (hts (.arrayClass .boolean) (by decide +kernel)) hK 201 rfl (by decide) (by show _ ≤ 404; omega) (by show _ ≤ 21105; omega) hS dX4_where_37 (fun H1 hw9 z1 o1 hS => ?_)
  rw [← hb1] at hw9 ⊢
  have nb1 := hw9
  have sb1 : H1.size = b1 + 1 := by omega
  rw [← hHw] at hw
  have hwk : ∀ z : Nat, z < Hw.size → H1[z]? = Hw[z]? := by rw [hHw]; exact fun z hz => o1 z (by omega)
  refine lv_astore (lv' := [(5, .ref b1), (4, .int ((((nI k3) - (nI 5)) + (nI k4)) - (nI 1))), (3, .int ((nI k3) - (nI 5))), (2, .int (nI k2)), (1, .int (nI k1)), (0, .ref o)]) hx hb dX4_where_39 hl (by decide) rfl (fun ls hl => ?_)
  refine lv_iconst (v := nI 0) hx hb dX4_where_41 (by decide) ?_
  refine lv_istore (lv' := [(6, .int (nI 0)), (5, .ref b1), (4, .int ((((nI k3) - (nI 5)) + (nI k4)) - (nI 1))), (3, .int ((nI k3) - (nI 5))), (2, .int (nI k2)), (1, .int (nI k1)), (0, .ref o)]) hx hb dX4_where_42 hl (by decide) rfl (fun ls hl => ?_)
  refine q_for (fun (i : Nat) (H : Heap) (locs : List Loc) (ls : Array Slot) => va_S A s.heap H locs ∧ lv_has ls 7 [(6, .int (nI i)), (5, .ref b1), (4, .int ((((nI k3) - (nI 5)) + (nI k4)) - (nI 1))), (3, .int ((nI k3) - (nI 5))), (2, .int (nI k2)), (1, .int (nI k1)), (0, .ref o)] ∧ pAt D H b1 (eN (T 0) 201 (rowP (fun j => if U k2 j < (nI k3 - nI 5) then nI 0 else if (nI k3 - nI 5 + nI k4 - nI 1) < U k2 j then nI 0 else nI 1) i)) ∧ ∀ z : Nat, z < Hw.size → H[z]? = Hw[z]?) (N := 201) 0 (by omega) ?_ ?_ ?_
  · skip
    have e1 : (eN (T 0) 201 zr0) = (eN (T 0) 201 (rowP (fun j => if U k2 j < (nI k3 - nI 5) then nI 0 else if (nI k3 - nI 5 + nI k4 - nI 1) < U k2 j then nI 0 else nI 1) 0)) := by (rw [rowP_0])
    exact ⟨hS, lv_sub hl [0, 1, 2, 3, 4, 5, 6] rfl, (by rw [← e1]; exact nb1), (by exact hwk)⟩
  · skip
    intro i H locs ls hi9 hin9 hnext
    obtain ⟨hS, hl, nb1, hwk⟩ := hin9
    refine lv_iload hx hb dX4_where_44 (lv_at hl 0 rfl) ?_
    refine lv_sipush (v := nI 200) hx hb dX4_where_46 (by decide) ?_
    refine lv_icmp_gt (tgt := 95) hx hb dX4_where_49 (by decide) (fun c49 => ?_) (fun c49 => ?_)
    · skip
      have c49 : 200 < i := (nc_lt (a := 200) (b := i) (by omega) (by omega)).mp c49
      omega
    · skip
      have c49 : ¬ (200 < i) := fun q9 => c49 ((nc_lt (a := 200) (b := i) (by omega) (by omega)).mpr q9)
      refine lv_aload hx hb dX4_where_52 (lv_at hl 1 rfl) ?_
      refine lv_iload hx hb dX4_where_54 (lv_at hl 0 rfl) ?_
      refine lv_aload_n hx hb dX4_where_56 rfl (lv_at hl 6 rfl) ?_
      refine q_get (v := .ref (o + 47)) hx hb hts hin4 hown hK (hw.ob.kept (hwk _ hw.ob.lt)) rfl 4 (by decide) (hts (.fieldLink RX4 23 "PuddingstoneLineLaw$Stones" "values" "[[I") (by decide +kernel)) (fun _ h9 => h9) rfl dX4_where_57 ?_
      refine lv_iload_n hx hb dX4_where_60 rfl (lv_at hl 4 rfl) ?_
      refine q_aald hx hb hK 5 rfl rfl (hw.vs.kept (hwk _ hw.vs.lt)) k2 (rfl) (by omega) (by decide) (b := vv k2) rfl dX4_where_61 ?_
      refine lv_iload hx hb dX4_where_62 (lv_at hl 0 rfl) ?_
      refine q_iald hx hb hK ((hw.u k2 (by omega)).2.kept (hwk _ (hw.u k2 (by omega)).2.lt)) i (rfl) (by omega) (by decide) dX4_where_64 ?_
      refine lv_iload_n hx hb dX4_where_65 rfl (lv_at hl 3 rfl) ?_
      refine lv_icmp_lt (tgt := 87) hx hb dX4_where_66 (by decide) (fun c66 => ?_) (fun c66 => ?_)
      · skip
        refine lv_iconst (v := nI 0) hx hb dX4_where_87 (by decide) ?_
        refine q_zast hx hb hK nb1 i (rfl) (by omega) (by decide) (rfl) hS (hA _ (by omega)) dX4_where_88 (fun H1 locs1 hw9 hz oq hS => ?_)
        have nb1 := hw9
        replace hwk := fun (z : Nat) (hz : z < Hw.size) => (oq z (by omega)).trans (hwk z hz)
        refine lv_iinc (v := nI (i + 1)) (lv' := [(6, .int (nI (i + 1))), (5, .ref b1), (4, .int ((((nI k3) - (nI 5)) + (nI k4)) - (nI 1))), (3, .int ((nI k3) - (nI 5))), (2, .int (nI k2)), (1, .int (nI k1)), (0, .ref o)]) hx hb dX4_where_89 hl (k := 0) rfl (inc_1 _) (by decide) rfl (fun ls hl => ?_)
        refine lv_goto (tgt := 44) hx hb dX4_where_92 (by decide) ?_
        have e2 : (eN (T 0) 201 (upd (rowP (fun j => if U k2 j < (nI k3 - nI 5) then nI 0 else if (nI k3 - nI 5 + nI k4 - nI 1) < U k2 j then nI 0 else nI 1) i) i (nI 0))) = (eN (T 0) 201 (rowP (fun j => if U k2 j < (nI k3 - nI 5) then nI 0 else if (nI k3 - nI 5 + nI k4 - nI 1) < U k2 j then nI 0 else nI 1) (i + 1))) := by (rw [rowP_u (by first | exact (if_pos c66).symm | exact ((if_neg c66).trans (if_pos c80)).symm | exact ((if_neg c66).trans (if_neg c80)).symm)])
        exact hnext _ _ _ ⟨hS, lv_sub hl [0, 1, 2, 3, 4, 5, 6] rfl, (by rw [← e2]; exact nb1), (by exact hwk)⟩
      · skip
        refine lv_aload_n hx hb dX4_where_69 rfl (lv_at hl 6 rfl) ?_
        refine q_get (v := .ref (o + 47)) hx hb hts hin4 hown hK (hw.ob.kept (hwk _ hw.ob.lt)) rfl 4 (by decide) (hts (.fieldLink RX4 23 "PuddingstoneLineLaw$Stones" "values" "[[I") (by decide +kernel)) (fun _ h9 => h9) rfl dX4_where_70 ?_
        refine lv_iload_n hx hb dX4_where_73 rfl (lv_at hl 4 rfl) ?_
        refine q_aald hx hb hK 5 rfl rfl (hw.vs.kept (hwk _ hw.vs.lt)) k2 (rfl) (by omega) (by decide) (b := vv k2) rfl dX4_where_74 ?_
        refine lv_iload hx hb dX4_where_75 (lv_at hl 0 rfl) ?_
        refine q_iald hx hb hK ((hw.u k2 (by omega)).2.kept (hwk _ (hw.u k2 (by omega)).2.lt)) i (rfl) (by omega) (by decide) dX4_where_77 ?_
        refine lv_iload hx hb dX4_where_78 (lv_at hl 2 rfl) ?_
        refine lv_icmp_gt (tgt := 87) hx hb dX4_where_80 (by decide) (fun c80 => ?_) (fun c80 => ?_)
        · skip
          refine lv_iconst (v := nI 0) hx hb dX4_where_87 (by decide) ?_
          refine q_zast hx hb hK nb1 i (rfl) (by omega) (by decide) (rfl) hS (hA _ (by omega)) dX4_where_88 (fun H1 locs1 hw9 hz oq hS => ?_)
          have nb1 := hw9
          replace hwk := fun (z : Nat) (hz : z < Hw.size) => (oq z (by omega)).trans (hwk z hz)
          refine lv_iinc (v := nI (i + 1)) (lv' := [(6, .int (nI (i + 1))), (5, .ref b1), (4, .int ((((nI k3) - (nI 5)) + (nI k4)) - (nI 1))), (3, .int ((nI k3) - (nI 5))), (2, .int (nI k2)), (1, .int (nI k1)), (0, .ref o)]) hx hb dX4_where_89 hl (k := 0) rfl (inc_1 _) (by decide) rfl (fun ls hl => ?_)
          refine lv_goto (tgt := 44) hx hb dX4_where_92 (by decide) ?_
          have e3 : (eN (T 0) 201 (upd (rowP (fun j => if U k2 j < (nI k3 - nI 5) then nI 0 else if (nI k3 - nI 5 + nI k4 - nI 1) < U k2 j then nI 0 else nI 1) i) i (nI 0))) = (eN (T 0) 201 (rowP (fun j => if U k2 j < (nI k3 - nI 5) then nI 0 else if (nI k3 - nI 5 + nI k4 - nI 1) < U k2 j then nI 0 else nI 1) (i + 1))) := by (rw [rowP_u (by first | exact (if_pos c66).symm | exact ((if_neg c66).trans (if_pos c80)).symm | exact ((if_neg c66).trans (if_neg c80)).symm)])
          exact hnext _ _ _ ⟨hS, lv_sub hl [0, 1, 2, 3, 4, 5, 6] rfl, (by rw [← e3]; exact nb1), (by exact hwk)⟩
        · skip
          refine lv_iconst (v := nI 1) hx hb dX4_where_83 (by decide) ?_
          refine lv_goto (tgt := 88) hx hb dX4_where_84 (by decide) ?_
          refine q_zast hx hb hK nb1 i (rfl) (by omega) (by decide) (rfl) hS (hA _ (by omega)) dX4_where_88 (fun H1 locs1 hw9 hz oq hS => ?_)
          have nb1 := hw9
          replace hwk := fun (z : Nat) (hz : z < Hw.size) => (oq z (by omega)).trans (hwk z hz)
          refine lv_iinc (v := nI (i + 1)) (lv' := [(6, .int (nI (i + 1))), (5, .ref b1), (4, .int ((((nI k3) - (nI 5)) + (nI k4)) - (nI 1))), (3, .int ((nI k3) - (nI 5))), (2, .int (nI k2)), (1, .int (nI k1)), (0, .ref o)]) hx hb dX4_where_89 hl (k := 0) rfl (inc_1 _) (by decide) rfl (fun ls hl => ?_)
          refine lv_goto (tgt := 44) hx hb dX4_where_92 (by decide) ?_
          have e4 : (eN (T 0) 201 (upd (rowP (fun j => if U k2 j < (nI k3 - nI 5) then nI 0 else if (nI k3 - nI 5 + nI k4 - nI 1) < U k2 j then nI 0 else nI 1) i) i (nI 1))) = (eN (T 0) 201 (rowP (fun j => if U k2 j < (nI k3 - nI 5) then nI 0 else if (nI k3 - nI 5 + nI k4 - nI 1) < U k2 j then nI 0 else nI 1) (i + 1))) := by (rw [rowP_u (by first | exact (if_pos c66).symm | exact ((if_neg c66).trans (if_pos c80)).symm | exact ((if_neg c66).trans (if_neg c80)).symm)])
          exact hnext _ _ _ ⟨hS, lv_sub hl [0, 1, 2, 3, 4, 5, 6] rfl, (by rw [← e4]; exact nb1), (by exact hwk)⟩
  · skip
    intro H locs ls hin9
    obtain ⟨hS, hl, nb1, hwk⟩ := hin9
    refine lv_iload hx hb dX4_where_44 (lv_at hl 0 rfl) ?_
    refine lv_sipush (v := nI 200) hx hb dX4_where_46 (by decide) ?_
    refine lv_icmp_gt (tgt := 95) hx hb dX4_where_49 (by decide) (fun c49 => ?_) (fun c49 => ?_)
    · skip
      have c49 : 200 < 201 := (nc_lt (a := 200) (b := 201) (by omega) (by omega)).mp c49
      refine lv_aload_n hx hb dX4_where_95 rfl (lv_at hl 6 rfl) ?_
      refine q_get (v := .ref (o + 38)) hx hb hts hin4 hown hK (hw.ob.kept (hwk _ hw.ob.lt)) rfl 3 (by decide) (hts (.fieldLink RX4 18 "PuddingstoneLineLaw$Stones" "sets" "[[[I") (by decide +kernel)) (fun _ h9 => h9) rfl dX4_where_96 ?_
      refine lv_iload_n hx hb dX4_where_99 rfl (lv_at hl 5 rfl) ?_
      refine lv_aload hx hb dX4_where_100 (lv_at hl 1 rfl) ?_
      obtain ⟨b2, hb2⟩ : ∃ z : Nat, z = H.size := ⟨_, rfl⟩
      have lnb1_b2 : b1 < b2 := by have h8 := nb1.lt; omega
      have ln_b2 : s.heap.size ≤ b2 := by have h8 := hS.1; omega
      have lw_b2 : Hw.size ≤ b2 := by have h8 := kp_sz hwk; omega
      refine va_callr (va_runS (As := [.ref b1]) (rest := [.int (nI k1), .ref (o + 38)]) ⟨hx, hb, hml, hown, hts⟩ (conX4_spans l D T b2 b1 (rowP (fun j => if U k2 j < (nI k3 - nI 5) then nI 0 else if (nI k3 - nI 5 + nI k4 - nI 1) < U k2 j then nI 0 else nI 1) 201)) (va_cwS 1 hts gX4_where_X4_spans rfl rfl rfl (by decide +kernel) ⟨Nat.le_of_ble_eq_true rfl, Nat.le_of_ble_eq_true rfl⟩) (preS hK ⟨hb2.symm, nb1⟩) rfl rfl hl.1 rfl (lv_room (Nat.le_of_ble_eq_true rfl)) dX4_where_102 ⟨by show _ ≤ 404; omega, by show _ ≤ 21105; omega⟩) hS (fun q _ h9 => (hA q (by have h8 : b2 ≤ q := h9; omega))) (fun q h9 => (hA q (by have h8 : b2 ≤ q := h9; omega))) (fun u ra t H1 locs1 ht hvm hw9 hB hz1 hk1 hS => ?_)
      try dsimp only at hB
      rw [ht] at hB
      obtain ⟨a5, rfl⟩ : ∃ z, z = ra := ⟨_, rfl⟩
      replace nb1 := nb1.kept (hk1 _ nb1.lt (fun h9 => by have h8 : b2 ≤ _ := h9; omega))
      obtain ⟨hra, adm, hil⟩ := hB
      have hrep := (spS_ok (pF (rowP (fun j => if U k2 j < (nI k3 - nI 5) then nI 0 else if (nI k3 - nI 5 + nI k4 - nI 1) < U k2 j then nI 0 else nI 1) 201)) (Nat.le_refl 201)).1
      replace hwk := fun (z : Nat) (hz : z < Hw.size) => (hk1 z (by omega) (fun h9 => by have h8 : b2 ≤ z := h9; omega)).trans (hwk z hz)
      refine q_aastq hx hb hK (hw.ss.kept (hwk _ hw.ss.lt)) hil.1 k1 rfl (by omega) (by decide) hS (hA _ (by omega)) dX4_where_105 (fun H1 locs1 hw9 hz oq hS => ?_)
      replace hw := (hw.old hwk).setL (k := k1) (m := a5) (S := (spS (pF (rowP (fun j => if U k2 j < (nI k3 - nI 5) then nI 0 else if (nI k3 - nI 5 + nI k4 - nI 1) < U k2 j then nI 0 else nI 1) 201)) 201)) (by omega) hrep.1.le ⟨_, hil.wk (by omega)⟩ hw9 oq
      replace nb1 := nb1.ne oq (by omega)
      replace hil := hil.up (m := o + 53) (by omega) (by omega) (fun z h8 h7 => oq z (by omega))
      refine lv_aload_n hx hb dX4_where_106 rfl (lv_at hl 6 rfl) ?_
      refine q_get (v := .ref (ad 0)) hx hb hts hin4 hown hK hw.ob rfl 0 (by decide) (hts (.fieldLink RX4 10 "PuddingstoneLineLaw$Stones" "m" "LPuddingstoneLine;") (by decide +kernel)) (fun _ h9 => h9) rfl dX4_where_107 ?_
      refine lv_iload_n hx hb dX4_where_110 rfl (lv_at hl 5 rfl) ?_
      refine lv_iload_n hx hb dX4_where_111 rfl (lv_at hl 4 rfl) ?_
      refine lv_iload_n hx hb dX4_where_112 rfl (lv_at hl 3 rfl) ?_
      refine lv_iload hx hb dX4_where_113 (lv_at hl 2 rfl) ?_
      refine va_calli (va_runV (As := [.int (nI k1), .int (nI k2), .int ((nI k3) - (nI 5)), .int ((((nI k3) - (nI 5)) + (nI k4)) - (nI 1))]) (rest := []) ⟨hx, hb, hml, hown, hts⟩ (conX3_where l D T ad F V sr C k1 k2 ((nI k3) - (nI 5)) ((((nI k3) - (nI 5)) + (nI k4)) - (nI 1)) (by omega) (by omega)) (cwV 4 hts gX4_where_X3_where rfl rfl rfl (by decide +kernel) ⟨Nat.le_of_ble_eq_true rfl, Nat.le_of_ble_eq_true rfl⟩) (preV hK hw.pl.o rfl hw.pl) rfl rfl hl.1 rfl (lv_room (Nat.le_of_ble_eq_true rfl)) dX4_where_115 ⟨by show _ ≤ 404; omega, by show _ ≤ 21105; omega⟩) hS (fun q _ h9 => (by obtain ⟨i9, h8, rfl⟩ := h9; exact hA _ (by have := hw.1 i9 h8; omega))) (fun q h9 => (by obtain ⟨i9, h8, rfl⟩ := h9; exact hA _ (by have := hw.1 i9 h8; omega))) (fun r u t H1 locs1 ht hvm hw9 hB hz1 hk1 hS => ?_)
      try dsimp only at hB
      rw [ht] at hB
      rw [hw9]
      replace nb1 := nb1.kept (hk1 _ nb1.lt (fun ⟨i9, h8, h7⟩ => by have := hw.1 i9 h8; omega))
      replace hil := hil.up (m := o + 53) (by omega) (by omega) (fun z h8 h7 => hk1 z h7 (fun ⟨i9, h6, h5⟩ => by have := hw.1 i9 h6; omega))
      replace hw := hw.setP hB (fun q h1 h2 => hk1 q h1 h2)
      refine lv_aload_n hx hb dX4_where_118 rfl (lv_at hl 6 rfl) ?_
      refine q_get (v := .ref (o + 38)) hx hb hts hin4 hown hK hw.ob rfl 3 (by decide) (hts (.fieldLink RX4 18 "PuddingstoneLineLaw$Stones" "sets" "[[[I") (by decide +kernel)) (fun _ h9 => h9) rfl dX4_where_119 ?_
      refine lv_iload_n hx hb dX4_where_122 rfl (lv_at hl 5 rfl) ?_
      refine q_aald hx hb hK 8 rfl rfl hw.ss k1 rfl (by omega) (by decide) (b := a5) (congrArg some (va_up_s _ _ _)) dX4_where_123 ?_
      refine vp_callSi (va_runS (As := [.ref a5]) (rest := [.int (cntZ (whrZ (F k1) (V k2) ((nI k3) - (nI 5)) ((((nI k3) - (nI 5)) + (nI k4)) - (nI 1)) 201) 201)]) ⟨hx, hb, hml, hown, hts⟩ (conX4_count l D T b2 a5 (fun k => adm k) ((spS (pF (rowP (fun j => if U k2 j < (nI k3 - nI 5) then nI 0 else if (nI k3 - nI 5 + nI k4 - nI 1) < U k2 j then nI 0 else nI 1) 201)) 201).1) ((spS (pF (rowP (fun j => if U k2 j < (nI k3 - nI 5) then nI 0 else if (nI k3 - nI 5 + nI k4 - nI 1) < U k2 j then nI 0 else nI 1) 201)) 201).2.1) ((spS (pF (rowP (fun j => if U k2 j < (nI k3 - nI 5) then nI 0 else if (nI k3 - nI 5 + nI k4 - nI 1) < U k2 j then nI 0 else nI 1) 201)) 201).2.2) (fun k hk => hrep.sp hk) hrep.1.le) (va_cwS 1 hts gX4_where_X4_count rfl rfl rfl (by decide +kernel) ⟨Nat.le_of_ble_eq_true rfl, Nat.le_of_ble_eq_true rfl⟩) (preS hK hil) rfl rfl hl.1 rfl (lv_room (Nat.le_of_ble_eq_true rfl)) dX4_where_124 ⟨by show _ ≤ 404; omega, by show _ ≤ 21105; omega⟩).run (fun r6 hr6 => ?_)
      rw [hr6]
      have hrp := whr_rep (F k1) (f := V k2) (u := U k2) ((nI k3) - (nI 5)) ((((nI k3) - (nI 5)) + (nI k4)) - (nI 1)) (fun j hj => (hinv.2.2 k2 j (by omega) hj).1)
      have hans := ans_cnt hrp
      refine lv_icmp_ne (tgt := 134) hx hb dX4_where_127 (by decide) (fun c127 => ?_) (fun c127 => ?_)
      · skip
        exact absurd hans c127
      · skip
        refine lv_iconst (v := nI 1) hx hb dX4_where_130 (by decide) ?_
        refine lv_goto (tgt := 135) hx hb dX4_where_131 (by decide) ?_
        exact W.zret (v := nI 1) hx hb hr (rfl) (fun t ht _ => ⟨⟨nI 1, (), rfl, by rfl, by dsimp only; rw [ht]; exact ⟨_, _, _, _, _, _, _, _, _, by omega, (by have h8 := hS.1; omega), hw, hinv.put hinv.1 up_ne (by rw [va_up_s]; exact hrp)⟩⟩, hS.F ht⟩) hS.2.2 dX4_where_135
    · skip
      have c49 : ¬ (200 < 201) := fun q9 => c49 ((nc_lt (a := 200) (b := 201) (by omega) (by omega)).mpr q9)
      omega
