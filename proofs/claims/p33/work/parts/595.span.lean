/-! STONES: SPAN -/
set_option maxHeartbeats 4000000 in
set_option maxRecDepth 100000 in
theorem conX4_span (l : Launch) (D : va_G) (T : Nat → ClassId) (ad : Nat → Nat) (o sc N : Nat) (sf : Nat → Int32) (d : Nat) (hN : N < 2 ^ 30) (hd : d + 20 < 2 ^ 30) : Met l yX4_span wsX4_span ({ frames := 3, cells := 405, slots := 21110, locals := 105 }) (cP D T [.ref o] (fun H => ST D T ad o sc N sf d H)) (va_Qi (fun (r : Int32) (_ : Unit) => r = nI 1) (fun _ t => ST D T ad o sc N sf (d + 10) t.heap) (fun z : Nat => o ≤ z)) 405 21110 (fun z : Nat => o ≤ z) := by
  refine Met.ofW (cc := cX4_span) (maxL := 7) (ret := (some .boolean)) (by decide) rfl ?_
  intro p e s m args below meth c s₁ B hml hv9
  obtain ⟨rfl, hK, ⟨dr, F, V, sr, C, L, U, la, vv, hdr, ho9, hw, hinv⟩⟩ := hv9
  have hx := B.exec
  have hb := B.bytes
  have hr := B.returns
  have hts := atoms_spec (ws := wsX4_span) B.pre
  have hown : s.vm.findClass RX4 = some m.cls := findClass_of_methodNamed B.named
  have hlocks := B.notSynchronized
  have hin4 : ∀ w ∈ wsX40, w ∈ wsX4_span := by decide +kernel
  generalize hAe : (fun z : Nat => o ≤ z) = A
  have hA : ∀ z : Nat, o ≤ z → A z := fun z h9 => by subst hAe; exact h9
  have hS : va_S A s.heap s.heap [] := va_S.rf
  have hl := lv_entry ([.ref o]) (n := 7) (Nat.le_of_ble_eq_true rfl)
  rw [lg_entry_eq]
  generalize (lg_sl ([.ref o]) ++ List.replicate (7 - (lg_sl ([.ref o])).length) Slot.unset).toArray = ls at hl ⊢
  have hl : lv_has ls 7 [(0, .ref o)] := hl
  have hA_o : A o := hA o (Nat.le_refl _)
  have hlt9 := hw.lt
  refine lv_aload_n hx hb dX4_span_0 rfl (lv_at hl 0 rfl) ?_
  refine lv_bipush (v := nI 8) hx hb dX4_span_1 (by decide) ?_
  refine va_calli (va_runV (As := [.int (nI 8)]) (rest := []) ⟨hx, hb, hml, hown, hts⟩ (conX4_draw l D T ad o sc N sf dr F V sr C L U la vv (by omega) (by omega) 8 (by omega) (by omega)) (cwV 1 hts gX4_span_X4_draw rfl rfl rfl (by decide +kernel) ⟨Nat.le_of_ble_eq_true rfl, Nat.le_of_ble_eq_true rfl⟩) (preV hK hw.ob rfl hw) rfl rfl hl.1 rfl (lv_room (Nat.le_of_ble_eq_true rfl)) dX4_span_3 ⟨Nat.le_of_ble_eq_true rfl, Nat.le_of_ble_eq_true rfl⟩) hS (fun q _ h9 => (by have h8 : q = o := h9; rw [h8]; exact hA_o)) (fun q h9 => (by have h8 : q = o := h9; rw [h8]; exact hA_o)) (fun r u t H1 locs1 ht hvm hw9 hB hz1 hk1 hS => ?_)
  try dsimp only at hB
  rw [ht] at hB
  obtain ⟨k1, hk1, rfl⟩ := hw9
  replace hw := hB
  refine lv_istore_n (lv' := [(1, .int (nI k1)), (0, .ref o)]) hx hb dX4_span_6 rfl hl (by decide) rfl (fun ls hl => ?_)
  refine lv_aload_n hx hb dX4_span_7 rfl (lv_at hl 1 rfl) ?_
  obtain ⟨Hw, hHw⟩ : ∃ z : Heap, z = H1 := ⟨_, rfl⟩
  obtain ⟨b1, hb1⟩ : ∃ z : Nat, z = H1.size := ⟨_, rfl⟩
  have ln_b1 : s.heap.size ≤ b1 := by have h8 := hS.1; omega
  have lw_b1 : Hw.size ≤ b1 := by rw [hHw]; omega
  refine va_callr (va_runV (As := []) (rest := []) ⟨hx, hb, hml, hown, hts⟩ (conX4_any l D T ad o sc N sf (dr + 1) F V sr C L U la vv (by omega) (by omega) b1 (by omega) (by omega)) (cwV 0 hts gX4_span_X4_any rfl rfl rfl (by decide +kernel) ⟨Nat.le_of_ble_eq_true rfl, Nat.le_of_ble_eq_true rfl⟩) (preV hK hw.ob rfl ⟨hb1.symm, hw⟩) rfl rfl hl.1 rfl (lv_room (Nat.le_of_ble_eq_true rfl)) dX4_span_8 ⟨Nat.le_of_ble_eq_true rfl, Nat.le_of_ble_eq_true rfl⟩) hS (fun q _ h9 => (by rcases (show q = o ∨ b1 ≤ q from h9) with h8 | h8 <;> first | (rw [h8]; exact hA_o) | exact hA q (by omega))) (fun q h9 => (by rcases (show q = o ∨ b1 ≤ q from h9) with h8 | h8 <;> first | (rw [h8]; exact hA_o) | exact hA q (by omega))) (fun u ra t H1 locs1 ht hvm hw9 hB hz1 hk1 hS => ?_)
  try dsimp only at hB
  rw [ht] at hB
  obtain ⟨a1, rfl⟩ : ∃ z, z = ra := ⟨_, rfl⟩
  obtain ⟨xa, ya, ea, hxy, hy9, he9, hra, hits, hw⟩ := hB
  have hfg9 := fg_lg hxy hy9 he9
  refine lv_astore_n (lv' := [(2, .ref a1), (1, .int (nI k1)), (0, .ref o)]) hx hb dX4_span_11 rfl hl (by decide) rfl (fun ls hl => ?_)
  refine lv_aload_n hx hb dX4_span_12 rfl (lv_at hl 2 rfl) ?_
  refine lv_iconst (v := nI 3) hx hb dX4_span_13 (by decide) ?_
  refine va_calli (va_runV (As := [.int (nI 3)]) (rest := []) ⟨hx, hb, hml, hown, hts⟩ (conX4_draw l D T ad o sc N sf (dr + 1 + 4) F V sr C L U la vv (by omega) (by omega) 3 (by omega) (by omega)) (cwV 1 hts gX4_span_X4_draw rfl rfl rfl (by decide +kernel) ⟨Nat.le_of_ble_eq_true rfl, Nat.le_of_ble_eq_true rfl⟩) (preV hK hw.ob rfl hw) rfl rfl hl.1 rfl (lv_room (Nat.le_of_ble_eq_true rfl)) dX4_span_14 ⟨Nat.le_of_ble_eq_true rfl, Nat.le_of_ble_eq_true rfl⟩) hS (fun q _ h9 => (by have h8 : q = o := h9; rw [h8]; exact hA_o)) (fun q h9 => (by have h8 : q = o := h9; rw [h8]; exact hA_o)) (fun r u t H1 locs1 ht hvm hw9 hB hz1 hk1 hS => ?_)
  try dsimp only at hB
  rw [ht] at hB
  obtain ⟨k2, hk2, rfl⟩ := hw9
  replace hits := hits.kept (hk1 _ hits.lt (fun h9 => by have h8 : _ = o := h9; omega))
  replace hw := hB
  refine lv_if_le (tgt := 24) hx hb dX4_span_17 (by decide) (fun c17 => ?_) (fun c17 => ?_)
  · skip
    have c17 : k2 ≤ 0 := (nc_le (a := k2) (b := 0) (by omega) (by omega)).mp c17
    refine lv_iconst (v := nI 0) hx hb dX4_span_24 (by decide) ?_
    refine lv_istore_n (lv' := [(3, .int (nI 0)), (2, .ref a1), (1, .int (nI k1)), (0, .ref o)]) hx hb dX4_span_25 rfl hl (by decide) rfl (fun ls hl => ?_)
    refine lv_aload_n hx hb dX4_span_26 rfl (lv_at hl 3 rfl) ?_
    refine q_get (v := .ref (o + 38)) hx hb hts hin4 hown hK hw.ob rfl 3 (by decide) (hts (.fieldLink RX4 18 "PuddingstoneLineLaw$Stones" "sets" "[[[I") (by decide +kernel)) (fun _ h9 => h9) rfl dX4_span_27 ?_
    refine lv_iload_n hx hb dX4_span_30 rfl (lv_at hl 2 rfl) ?_
    refine q_aald hx hb hK 8 rfl rfl hw.ss k1 rfl (by omega) (by decide) (b := la k1) rfl dX4_span_31 ?_
    obtain ⟨hla1, hln1, ads1, hi1⟩ := hw.il k1 (by omega)
    have hR1 := hinv.2.1 k1 (by omega)
    obtain ⟨Hw, hHw⟩ : ∃ z : Heap, z = H1 := ⟨_, rfl⟩
    obtain ⟨b2, hb2⟩ : ∃ z : Nat, z = H1.size := ⟨_, rfl⟩
    have lhits_b2 : a1 < b2 := by have h8 := hits.lt; omega
    have ln_b2 : s.heap.size ≤ b2 := by have h8 := hS.1; omega
    have lw_b2 : Hw.size ≤ b2 := by rw [hHw]; omega
    refine va_callr (va_runS (As := [.ref (la k1)]) (rest := []) ⟨hx, hb, hml, hown, hts⟩ (conX4_row l D T b2 (o + 53) (la k1) (fun k => ads1 k) ((L k1).1) ((L k1).2.1) ((L k1).2.2) (fun k hk => hR1.sp hk) hR1.1.le) (va_cwS 1 hts gX4_span_X4_row rfl rfl rfl (by decide +kernel) ⟨Nat.le_of_ble_eq_true rfl, Nat.le_of_ble_eq_true rfl⟩) (preS hK ⟨hb2.symm, hi1⟩) rfl rfl hl.1 rfl (lv_room (Nat.le_of_ble_eq_true rfl)) dX4_span_32 ⟨Nat.le_of_ble_eq_true rfl, Nat.le_of_ble_eq_true rfl⟩) hS (fun q _ h9 => (hA q (by have h8 : b2 ≤ q := h9; omega))) (fun q h9 => (hA q (by have h8 : b2 ≤ q := h9; omega))) (fun u ra t H1 locs1 ht hvm hw9 hB hz1 hk1 hS => ?_)
    try dsimp only at hB
    rw [ht] at hB
    obtain ⟨a2, rfl⟩ : ∃ z, z = ra := ⟨_, rfl⟩
    replace hits := hits.kept (hk1 _ hits.lt (fun h9 => by have h8 : b2 ≤ _ := h9; omega))
    obtain ⟨hra, hz9, hrow⟩ := hB
    subst hra
    rw [← hHw] at hw hi1
    have hwk : ∀ z : Nat, z < Hw.size → H1[z]? = Hw[z]? := by rw [hHw]; exact fun z hz => hk1 z (by omega) (fun h9 => by have h8 : a2 ≤ z := h9; omega)
    refine lv_astore (lv' := [(4, .ref a2), (3, .int (nI 0)), (2, .ref a1), (1, .int (nI k1)), (0, .ref o)]) hx hb dX4_span_35 hl (by decide) rfl (fun ls hl => ?_)
    refine lv_iconst (v := nI 0) hx hb dX4_span_37 (by decide) ?_
    refine lv_istore (lv' := [(5, .int (nI 0)), (4, .ref a2), (3, .int (nI 0)), (2, .ref a1), (1, .int (nI k1)), (0, .ref o)]) hx hb dX4_span_38 hl (by decide) rfl (fun ls hl => ?_)
    refine lv_aload_n hx hb dX4_span_40 rfl (lv_at hl 3 rfl) ?_
    refine lv_iconst (v := nI 0) hx hb dX4_span_41 (by decide) ?_
    refine q_iald hx hb hK hits 0 (rfl) (by omega) (by decide) dX4_span_42 ?_
    refine W.eq (g2 := F0 m 43 ls [.int (nI (fgN xa ya ea))]) rfl ?_
    refine lv_istore (lv' := [(6, .int (nI (fgN xa ya ea))), (5, .int (nI 0)), (4, .ref a2), (3, .int (nI 0)), (2, .ref a1), (1, .int (nI k1)), (0, .ref o)]) hx hb dX4_span_43 hl (by decide) rfl (fun ls hl => ?_)
    refine q_for (fun (i : Nat) (H : Heap) (locs : List Loc) (ls : Array Slot) => va_S A s.heap H locs ∧ lv_has ls 7 [(6, .int (nI (fgN xa ya ea + i))), (5, .int (nI (chgN (pF (chiC (inN (L k1).1 (L k1).2.1 (L k1).2.2))) false (fgN xa ya ea) i))), (4, .ref a2), (3, .int (nI 0)), (2, .ref a1), (1, .int (nI k1)), (0, .ref o)] ∧ pAt D H a1 (eN (T 1) 5 (an5 xa ya ea)) ∧ pAt D H a2 (eN (T 0) 201 (rwS (chiC (inN (L k1).1 (L k1).2.1 (L k1).2.2)) (nI 0) (fgN xa ya ea) i)) ∧ ∀ z : Nat, z < Hw.size → H[z]? = Hw[z]?) (N := (lgN xa ya ea - fgN xa ya ea)) 0 (by omega) ?_ ?_ ?_
    · skip
      have e3 : nI (fgN xa ya ea) = nI (fgN xa ya ea + 0) := by rfl
      have e4 : nI 0 = nI (chgN (pF (chiC (inN (L k1).1 (L k1).2.1 (L k1).2.2))) false (fgN xa ya ea) 0) := by rfl
      have e5 : (eN (T 0) 201 (chiC (inN ((L k1).1) ((L k1).2.1) ((L k1).2.2)))) = (eN (T 0) 201 (rwS (chiC (inN (L k1).1 (L k1).2.1 (L k1).2.2)) (nI 0) (fgN xa ya ea) 0)) := by (rw [rwS_0])
      exact ⟨hS, lv_sub (lv_ex (lv_ex hl 0 rfl (congrArg Value.int e3)) 1 rfl (congrArg Value.int e4)) [0, 1, 2, 3, 4, 5, 6] rfl, hits, (by rw [← e5]; exact hrow), (by exact hwk)⟩
    · skip
      intro i H locs ls hi9 hin9 hnext
      obtain ⟨hS, hl, hits, hrow, hwk⟩ := hin9
      refine lv_iload hx hb dX4_span_45 (lv_at hl 0 rfl) ?_
      refine lv_aload_n hx hb dX4_span_47 rfl (lv_at hl 4 rfl) ?_
      refine lv_iconst (v := nI 1) hx hb dX4_span_48 (by decide) ?_
      refine q_iald hx hb hK hits 1 (rfl) (by omega) (by decide) dX4_span_49 ?_
      refine W.eq (g2 := F0 m 50 ls [.int (nI (lgN xa ya ea - 1)), .int (nI (fgN xa ya ea + i))]) rfl ?_
      refine lv_icmp_gt (tgt := 84) hx hb dX4_span_50 (by decide) (fun c50 => ?_) (fun c50 => ?_)
      · skip
        have c50 : lgN xa ya ea - 1 < fgN xa ya ea + i := (nc_lt (a := lgN xa ya ea - 1) (b := fgN xa ya ea + i) (by omega) (by omega)).mp c50
        omega
      · skip
        have c50 : ¬ (lgN xa ya ea - 1 < fgN xa ya ea + i) := fun q9 => c50 ((nc_lt (a := lgN xa ya ea - 1) (b := fgN xa ya ea + i) (by omega) (by omega)).mpr q9)
        refine lv_iload hx hb dX4_span_53 (lv_at hl 1 rfl) ?_
        refine lv_aload hx hb dX4_span_55 (lv_at hl 2 rfl) ?_
        refine lv_iload hx hb dX4_span_57 (lv_at hl 0 rfl) ?_
        refine q_zald hx hb hK hrow (fgN xa ya ea + i) (rfl) (by omega) (by decide) dX4_span_59 ?_
        rw [rwS_at]
        refine lv_iload_n hx hb dX4_span_60 rfl (lv_at hl 3 rfl) ?_
        refine lv_icmp_ne (tgt := 68) hx hb dX4_span_61 (by decide) (fun c61 => ?_) (fun c61 => ?_)
        · skip
          have c61 : ¬ (pF (chiC (inN (L k1).1 (L k1).2.1 (L k1).2.2)) (fgN xa ya ea + i) = false) := fun q9 => c61 ((chi_0).mpr q9)
          refine lv_iconst (v := nI 1) hx hb dX4_span_68 (by decide) ?_
          refine lv_iadd hx hb dX4_span_69 ?_
          rw [nI_add]
          refine lv_istore (lv' := [(5, .int (nI ((chgN (pF (chiC (inN (L k1).1 (L k1).2.1 (L k1).2.2))) false (fgN xa ya ea) i) + 1))), (6, .int (nI (fgN xa ya ea + i))), (4, .ref a2), (3, .int (nI 0)), (2, .ref a1), (1, .int (nI k1)), (0, .ref o)]) hx hb dX4_span_70 hl (by decide) rfl (fun ls hl => ?_)
          refine lv_aload hx hb dX4_span_72 (lv_at hl 2 rfl) ?_
          refine lv_iload hx hb dX4_span_74 (lv_at hl 1 rfl) ?_
          refine lv_iload_n hx hb dX4_span_76 rfl (lv_at hl 3 rfl) ?_
          refine q_zast hx hb hK hrow (fgN xa ya ea + i) (rfl) (by omega) (by decide) (rfl) hS (hA _ (by omega)) dX4_span_77 (fun H1 locs1 hw9 hz oq hS => ?_)
          replace hits := hits.ne oq (by omega)
          have hrow := hw9
          replace hwk := fun (z : Nat) (hz : z < Hw.size) => (oq z (by omega)).trans (hwk z hz)
          refine lv_iinc (v := nI (fgN xa ya ea + i + 1)) (lv' := [(6, .int (nI (fgN xa ya ea + i + 1))), (5, .int (nI ((chgN (pF (chiC (inN (L k1).1 (L k1).2.1 (L k1).2.2))) false (fgN xa ya ea) i) + 1))), (4, .ref a2), (3, .int (nI 0)), (2, .ref a1), (1, .int (nI k1)), (0, .ref o)]) hx hb dX4_span_78 hl (k := 1) rfl (inc_1 _) (by decide) rfl (fun ls hl => ?_)
          refine lv_goto (tgt := 45) hx hb dX4_span_81 (by decide) ?_
          have e6 : nI (fgN xa ya ea + i + 1) = nI (fgN xa ya ea + (i + 1)) := by rfl
          have e7 : nI ((chgN (pF (chiC (inN (L k1).1 (L k1).2.1 (L k1).2.2))) false (fgN xa ya ea) i) + 1) = nI (chgN (pF (chiC (inN (L k1).1 (L k1).2.1 (L k1).2.2))) false (fgN xa ya ea) (i + 1)) := by first | (rw [chgN_s, if_pos c61]; done) | (rw [chgN_s, if_pos c61]; rfl) | (rw [chgN_s, if_neg c61]; done) | (rw [chgN_s, if_neg c61]; rfl)
          have e8 : (eN (T 0) 201 (upd (rwS (chiC (inN (L k1).1 (L k1).2.1 (L k1).2.2)) (nI 0) (fgN xa ya ea) i) (fgN xa ya ea + i) (nI 0))) = (eN (T 0) 201 (rwS (chiC (inN (L k1).1 (L k1).2.1 (L k1).2.2)) (nI 0) (fgN xa ya ea) (i + 1))) := by (rw [rwS_s])
          exact hnext _ _ _ ⟨hS, lv_sub (lv_ex (lv_ex hl 0 rfl (congrArg Value.int e6)) 1 rfl (congrArg Value.int e7)) [0, 1, 2, 3, 4, 5, 6] rfl, hits, (by rw [← e8]; exact hrow), (by exact hwk)⟩
        · skip
          have c61 : pF (chiC (inN (L k1).1 (L k1).2.1 (L k1).2.2)) (fgN xa ya ea + i) = false := (chi_0).mp c61
          refine lv_iconst (v := nI 0) hx hb dX4_span_64 (by decide) ?_
          refine lv_goto (tgt := 69) hx hb dX4_span_65 (by decide) ?_
          refine lv_iadd hx hb dX4_span_69 ?_
          rw [nI_add]
          refine lv_istore (lv' := [(5, .int (nI ((chgN (pF (chiC (inN (L k1).1 (L k1).2.1 (L k1).2.2))) false (fgN xa ya ea) i) + 0))), (6, .int (nI (fgN xa ya ea + i))), (4, .ref a2), (3, .int (nI 0)), (2, .ref a1), (1, .int (nI k1)), (0, .ref o)]) hx hb dX4_span_70 hl (by decide) rfl (fun ls hl => ?_)
          refine lv_aload hx hb dX4_span_72 (lv_at hl 2 rfl) ?_
          refine lv_iload hx hb dX4_span_74 (lv_at hl 1 rfl) ?_
          refine lv_iload_n hx hb dX4_span_76 rfl (lv_at hl 3 rfl) ?_
          refine q_zast hx hb hK hrow (fgN xa ya ea + i) (rfl) (by omega) (by decide) (rfl) hS (hA _ (by omega)) dX4_span_77 (fun H1 locs1 hw9 hz oq hS => ?_)
          replace hits := hits.ne oq (by omega)
          have hrow := hw9
          replace hwk := fun (z : Nat) (hz : z < Hw.size) => (oq z (by omega)).trans (hwk z hz)
          refine lv_iinc (v := nI (fgN xa ya ea + i + 1)) (lv' := [(6, .int (nI (fgN xa ya ea + i + 1))), (5, .int (nI ((chgN (pF (chiC (inN (L k1).1 (L k1).2.1 (L k1).2.2))) false (fgN xa ya ea) i) + 0))), (4, .ref a2), (3, .int (nI 0)), (2, .ref a1), (1, .int (nI k1)), (0, .ref o)]) hx hb dX4_span_78 hl (k := 1) rfl (inc_1 _) (by decide) rfl (fun ls hl => ?_)
          refine lv_goto (tgt := 45) hx hb dX4_span_81 (by decide) ?_
          have e9 : nI (fgN xa ya ea + i + 1) = nI (fgN xa ya ea + (i + 1)) := by rfl
          have e10 : nI ((chgN (pF (chiC (inN (L k1).1 (L k1).2.1 (L k1).2.2))) false (fgN xa ya ea) i) + 0) = nI (chgN (pF (chiC (inN (L k1).1 (L k1).2.1 (L k1).2.2))) false (fgN xa ya ea) (i + 1)) := by first | (rw [chgN_s, if_pos c61]; done) | (rw [chgN_s, if_pos c61]; rfl) | (rw [chgN_s, if_neg c61]; done) | (rw [chgN_s, if_neg c61]; rfl)
          have e11 : (eN (T 0) 201 (upd (rwS (chiC (inN (L k1).1 (L k1).2.1 (L k1).2.2)) (nI 0) (fgN xa ya ea) i) (fgN xa ya ea + i) (nI 0))) = (eN (T 0) 201 (rwS (chiC (inN (L k1).1 (L k1).2.1 (L k1).2.2)) (nI 0) (fgN xa ya ea) (i + 1))) := by (rw [rwS_s])
          exact hnext _ _ _ ⟨hS, lv_sub (lv_ex (lv_ex hl 0 rfl (congrArg Value.int e9)) 1 rfl (congrArg Value.int e10)) [0, 1, 2, 3, 4, 5, 6] rfl, hits, (by rw [← e11]; exact hrow), (by exact hwk)⟩
    · skip
      intro H locs ls hin9
      obtain ⟨hS, hl, hits, hrow, hwk⟩ := hin9
      refine lv_iload hx hb dX4_span_45 (lv_at hl 0 rfl) ?_
      refine lv_aload_n hx hb dX4_span_47 rfl (lv_at hl 4 rfl) ?_
      refine lv_iconst (v := nI 1) hx hb dX4_span_48 (by decide) ?_
      refine q_iald hx hb hK hits 1 (rfl) (by omega) (by decide) dX4_span_49 ?_
      refine W.eq (g2 := F0 m 50 ls [.int (nI (lgN xa ya ea - 1)), .int (nI (fgN xa ya ea + (lgN xa ya ea - fgN xa ya ea)))]) rfl ?_
      refine lv_icmp_gt (tgt := 84) hx hb dX4_span_50 (by decide) (fun c50 => ?_) (fun c50 => ?_)
      · skip
        have c50 : lgN xa ya ea - 1 < fgN xa ya ea + (lgN xa ya ea - fgN xa ya ea) := (nc_lt (a := lgN xa ya ea - 1) (b := fgN xa ya ea + (lgN xa ya ea - fgN xa ya ea)) (by omega) (by omega)).mp c50
        refine lv_aload_n hx hb dX4_span_84 rfl (lv_at hl 6 rfl) ?_
        refine q_get (v := .ref (o + 38)) hx hb hts hin4 hown hK (hw.ob.kept (hwk _ hw.ob.lt)) rfl 3 (by decide) (hts (.fieldLink RX4 18 "PuddingstoneLineLaw$Stones" "sets" "[[[I") (by decide +kernel)) (fun _ h9 => h9) rfl dX4_span_85 ?_
        refine lv_iload_n hx hb dX4_span_88 rfl (lv_at hl 5 rfl) ?_
        refine lv_aload hx hb dX4_span_89 (lv_at hl 2 rfl) ?_
        obtain ⟨b3, hb3⟩ : ∃ z : Nat, z = H.size := ⟨_, rfl⟩
        have lhits_b3 : a1 < b3 := by have h8 := hits.lt; omega
        have lhrow_b3 : a2 < b3 := by have h8 := hrow.lt; omega
        have ln_b3 : s.heap.size ≤ b3 := by have h8 := hS.1; omega
        have lw_b3 : Hw.size ≤ b3 := by have h8 := kp_sz hwk; omega
        refine va_callr (va_runS (As := [.ref a2]) (rest := [.int (nI k1), .ref (o + 38)]) ⟨hx, hb, hml, hown, hts⟩ (conX4_spans l D T b3 a2 (rwS (chiC (inN (L k1).1 (L k1).2.1 (L k1).2.2)) (nI 0) (fgN xa ya ea) (lgN xa ya ea - fgN xa ya ea))) (va_cwS 1 hts gX4_span_X4_spans rfl rfl rfl (by decide +kernel) ⟨Nat.le_of_ble_eq_true rfl, Nat.le_of_ble_eq_true rfl⟩) (preS hK ⟨hb3.symm, hrow⟩) rfl rfl hl.1 rfl (lv_room (Nat.le_of_ble_eq_true rfl)) dX4_span_91 ⟨Nat.le_of_ble_eq_true rfl, Nat.le_of_ble_eq_true rfl⟩) hS (fun q _ h9 => (hA q (by have h8 : b3 ≤ q := h9; omega))) (fun q h9 => (hA q (by have h8 : b3 ≤ q := h9; omega))) (fun u ra t H1 locs1 ht hvm hw9 hB hz1 hk1 hS => ?_)
        try dsimp only at hB
        rw [ht] at hB
        obtain ⟨a12, rfl⟩ : ∃ z, z = ra := ⟨_, rfl⟩
        replace hits := hits.kept (hk1 _ hits.lt (fun h9 => by have h8 : b3 ≤ _ := h9; omega))
        replace hrow := hrow.kept (hk1 _ hrow.lt (fun h9 => by have h8 : b3 ≤ _ := h9; omega))
        obtain ⟨hra, adm, hil⟩ := hB
        have hrep := (spS_ok (pF (rwS (chiC (inN (L k1).1 (L k1).2.1 (L k1).2.2)) (nI 0) (fgN xa ya ea) (lgN xa ya ea - fgN xa ya ea))) (Nat.le_refl 201)).1
        replace hwk := fun (z : Nat) (hz : z < Hw.size) => (hk1 z (by omega) (fun h9 => by have h8 : b3 ≤ z := h9; omega)).trans (hwk z hz)
        refine q_aastq hx hb hK (hw.ss.kept (hwk _ hw.ss.lt)) hil.1 k1 rfl (by omega) (by decide) hS (hA _ (by omega)) dX4_span_94 (fun H1 locs1 hw9 hz oq hS => ?_)
        replace hw := (hw.old hwk).setL (k := k1) (m := a12) (S := (spS (pF (rwS (chiC (inN (L k1).1 (L k1).2.1 (L k1).2.2)) (nI 0) (fgN xa ya ea) (lgN xa ya ea - fgN xa ya ea))) 201)) (by omega) hrep.1.le ⟨_, hil.wk (by omega)⟩ hw9 oq
        replace hits := hits.ne oq (by omega)
        replace hrow := hrow.ne oq (by omega)
        replace hil := hil.up (m := o + 53) (by omega) (by omega) (fun z h8 h7 => oq z (by omega))
        refine lv_aload_n hx hb dX4_span_95 rfl (lv_at hl 6 rfl) ?_
        refine q_get (v := .ref (ad 0)) hx hb hts hin4 hown hK hw.ob rfl 0 (by decide) (hts (.fieldLink RX4 10 "PuddingstoneLineLaw$Stones" "m" "LPuddingstoneLine;") (by decide +kernel)) (fun _ h9 => h9) rfl dX4_span_96 ?_
        refine lv_iload_n hx hb dX4_span_99 rfl (lv_at hl 5 rfl) ?_
        refine lv_aload_n hx hb dX4_span_100 rfl (lv_at hl 4 rfl) ?_
        refine lv_iconst (v := nI 2) hx hb dX4_span_101 (by decide) ?_
        refine q_iald hx hb hK hits 2 (rfl) (by omega) (by decide) dX4_span_102 ?_
        refine W.eq (g2 := F0 m 103 ls [.int (nI xa), .int (nI k1), .ref (ad 0)]) rfl ?_
        refine lv_aload_n hx hb dX4_span_103 rfl (lv_at hl 4 rfl) ?_
        refine lv_iconst (v := nI 3) hx hb dX4_span_104 (by decide) ?_
        refine q_iald hx hb hK hits 3 (rfl) (by omega) (by decide) dX4_span_105 ?_
        refine W.eq (g2 := F0 m 106 ls [.int (nI ya), .int (nI xa), .int (nI k1), .ref (ad 0)]) rfl ?_
        refine lv_aload_n hx hb dX4_span_106 rfl (lv_at hl 4 rfl) ?_
        refine lv_iconst (v := nI 4) hx hb dX4_span_107 (by decide) ?_
        refine q_iald hx hb hK hits 4 (rfl) (by omega) (by decide) dX4_span_108 ?_
        refine W.eq (g2 := F0 m 109 ls [.int (nI ea), .int (nI ya), .int (nI xa), .int (nI k1), .ref (ad 0)]) rfl ?_
        refine lv_iload_n hx hb dX4_span_109 rfl (lv_at hl 3 rfl) ?_
        refine va_calli (va_runV (As := [.int (nI k1), .int (nI xa), .int (nI ya), .int (nI ea), .int (nI 0)]) (rest := []) ⟨hx, hb, hml, hown, hts⟩ (conX3_span l D T ad F V sr C k1 xa ya ea (nI 0) (by omega) (by omega) (by omega) (by omega) rfl) (cwV 5 hts gX4_span_X3_span rfl rfl rfl (by decide +kernel) ⟨Nat.le_of_ble_eq_true rfl, Nat.le_of_ble_eq_true rfl⟩) (preV hK hw.pl.o rfl hw.pl) rfl rfl hl.1 rfl (lv_room (Nat.le_of_ble_eq_true rfl)) dX4_span_110 ⟨Nat.le_of_ble_eq_true rfl, Nat.le_of_ble_eq_true rfl⟩) hS (fun q _ h9 => (by obtain ⟨i9, h8, rfl⟩ := h9; exact hA _ (by have := hw.1 i9 h8; omega))) (fun q h9 => (by obtain ⟨i9, h8, rfl⟩ := h9; exact hA _ (by have := hw.1 i9 h8; omega))) (fun r u t H1 locs1 ht hvm hw9 hB hz1 hk1 hS => ?_)
        try dsimp only at hB
        rw [ht] at hB
        rw [hw9]
        replace hits := hits.kept (hk1 _ hits.lt (fun ⟨i9, h8, h7⟩ => by have := hw.1 i9 h8; omega))
        replace hrow := hrow.kept (hk1 _ hrow.lt (fun ⟨i9, h8, h7⟩ => by have := hw.1 i9 h8; omega))
        replace hil := hil.up (m := o + 53) (by omega) (by omega) (fun z h8 h7 => hk1 z h7 (fun ⟨i9, h6, h5⟩ => by have := hw.1 i9 h6; omega))
        replace hw := hw.setP hB (fun q h1 h2 => hk1 q h1 h2)
        refine lv_iload hx hb dX4_span_113 (lv_at hl 1 rfl) ?_
        have hans := span_cnt hR1 (v := nI 0) (b := false) (lo := fgN xa ya ea) (hi := lgN xa ya ea) (by omega) (by omega) rfl
        refine lv_icmp_ne (tgt := 122) hx hb dX4_span_115 (by decide) (fun c115 => ?_) (fun c115 => ?_)
        · skip
          exact absurd hans c115
        · skip
          refine lv_iconst (v := nI 1) hx hb dX4_span_118 (by decide) ?_
          refine lv_goto (tgt := 123) hx hb dX4_span_119 (by decide) ?_
          exact W.zret (v := nI 1) hx hb hr (rfl) (fun t ht _ => ⟨⟨nI 1, (), rfl, by rfl, by dsimp only; rw [ht]; exact ⟨_, _, _, _, _, _, _, _, _, by omega, (by have h8 := hS.1; omega), hw, hinv.put hinv.1 up_ne (by rw [va_up_s]; exact span_rep hR1 (by omega) (by omega))⟩⟩, hS.F ht⟩) hS.2.2 dX4_span_123
      · skip
        have c50 : ¬ (lgN xa ya ea - 1 < fgN xa ya ea + (lgN xa ya ea - fgN xa ya ea)) := fun q9 => c50 ((nc_lt (a := lgN xa ya ea - 1) (b := fgN xa ya ea + (lgN xa ya ea - fgN xa ya ea)) (by omega) (by omega)).mpr q9)
        omega
  · skip
    have c17 : ¬ (k2 ≤ 0) := fun q9 => c17 ((nc_le (a := k2) (b := 0) (by omega) (by omega)).mpr q9)
    refine lv_iconst (v := nI 1) hx hb dX4_span_20 (by decide) ?_
    refine lv_goto (tgt := 25) hx hb dX4_span_21 (by decide) ?_
    refine lv_istore_n (lv' := [(3, .int (nI 1)), (2, .ref a1), (1, .int (nI k1)), (0, .ref o)]) hx hb dX4_span_25 rfl hl (by decide) rfl (fun ls hl => ?_)
    refine lv_aload_n hx hb dX4_span_26 rfl (lv_at hl 3 rfl) ?_
    refine q_get (v := .ref (o + 38)) hx hb hts hin4 hown hK hw.ob rfl 3 (by decide) (hts (.fieldLink RX4 18 "PuddingstoneLineLaw$Stones" "sets" "[[[I") (by decide +kernel)) (fun _ h9 => h9) rfl dX4_span_27 ?_
    refine lv_iload_n hx hb dX4_span_30 rfl (lv_at hl 2 rfl) ?_
    refine q_aald hx hb hK 8 rfl rfl hw.ss k1 rfl (by omega) (by decide) (b := la k1) rfl dX4_span_31 ?_
    obtain ⟨hla1, hln1, ads1, hi1⟩ := hw.il k1 (by omega)
    have hR1 := hinv.2.1 k1 (by omega)
    obtain ⟨Hw, hHw⟩ : ∃ z : Heap, z = H1 := ⟨_, rfl⟩
    obtain ⟨b2, hb2⟩ : ∃ z : Nat, z = H1.size := ⟨_, rfl⟩
    have lhits_b2 : a1 < b2 := by have h8 := hits.lt; omega
    have ln_b2 : s.heap.size ≤ b2 := by have h8 := hS.1; omega
    have lw_b2 : Hw.size ≤ b2 := by rw [hHw]; omega
    refine va_callr (va_runS (As := [.ref (la k1)]) (rest := []) ⟨hx, hb, hml, hown, hts⟩ (conX4_row l D T b2 (o + 53) (la k1) (fun k => ads1 k) ((L k1).1) ((L k1).2.1) ((L k1).2.2) (fun k hk => hR1.sp hk) hR1.1.le) (va_cwS 1 hts gX4_span_X4_row rfl rfl rfl (by decide +kernel) ⟨Nat.le_of_ble_eq_true rfl, Nat.le_of_ble_eq_true rfl⟩) (preS hK ⟨hb2.symm, hi1⟩) rfl rfl hl.1 rfl (lv_room (Nat.le_of_ble_eq_true rfl)) dX4_span_32 ⟨Nat.le_of_ble_eq_true rfl, Nat.le_of_ble_eq_true rfl⟩) hS (fun q _ h9 => (hA q (by have h8 : b2 ≤ q := h9; omega))) (fun q h9 => (hA q (by have h8 : b2 ≤ q := h9; omega))) (fun u ra t H1 locs1 ht hvm hw9 hB hz1 hk1 hS => ?_)
    try dsimp only at hB
    rw [ht] at hB
    obtain ⟨a13, rfl⟩ : ∃ z, z = ra := ⟨_, rfl⟩
    replace hits := hits.kept (hk1 _ hits.lt (fun h9 => by have h8 : b2 ≤ _ := h9; omega))
    obtain ⟨hra, hz9, hrow⟩ := hB
    subst hra
    rw [← hHw] at hw hi1
    have hwk : ∀ z : Nat, z < Hw.size → H1[z]? = Hw[z]? := by rw [hHw]; exact fun z hz => hk1 z (by omega) (fun h9 => by have h8 : a13 ≤ z := h9; omega)
    refine lv_astore (lv' := [(4, .ref a13), (3, .int (nI 1)), (2, .ref a1), (1, .int (nI k1)), (0, .ref o)]) hx hb dX4_span_35 hl (by decide) rfl (fun ls hl => ?_)
    refine lv_iconst (v := nI 0) hx hb dX4_span_37 (by decide) ?_
    refine lv_istore (lv' := [(5, .int (nI 0)), (4, .ref a13), (3, .int (nI 1)), (2, .ref a1), (1, .int (nI k1)), (0, .ref o)]) hx hb dX4_span_38 hl (by decide) rfl (fun ls hl => ?_)
    refine lv_aload_n hx hb dX4_span_40 rfl (lv_at hl 3 rfl) ?_
    refine lv_iconst (v := nI 0) hx hb dX4_span_41 (by decide) ?_
    refine q_iald hx hb hK hits 0 (rfl) (by omega) (by decide) dX4_span_42 ?_
    refine W.eq (g2 := F0 m 43 ls [.int (nI (fgN xa ya ea))]) rfl ?_
    refine lv_istore (lv' := [(6, .int (nI (fgN xa ya ea))), (5, .int (nI 0)), (4, .ref a13), (3, .int (nI 1)), (2, .ref a1), (1, .int (nI k1)), (0, .ref o)]) hx hb dX4_span_43 hl (by decide) rfl (fun ls hl => ?_)
    refine q_for (fun (i : Nat) (H : Heap) (locs : List Loc) (ls : Array Slot) => va_S A s.heap H locs ∧ lv_has ls 7 [(6, .int (nI (fgN xa ya ea + i))), (5, .int (nI (chgN (pF (chiC (inN (L k1).1 (L k1).2.1 (L k1).2.2))) true (fgN xa ya ea) i))), (4, .ref a13), (3, .int (nI 1)), (2, .ref a1), (1, .int (nI k1)), (0, .ref o)] ∧ pAt D H a1 (eN (T 1) 5 (an5 xa ya ea)) ∧ pAt D H a13 (eN (T 0) 201 (rwS (chiC (inN (L k1).1 (L k1).2.1 (L k1).2.2)) (nI 1) (fgN xa ya ea) i)) ∧ ∀ z : Nat, z < Hw.size → H[z]? = Hw[z]?) (N := (lgN xa ya ea - fgN xa ya ea)) 0 (by omega) ?_ ?_ ?_
    · skip
      have e14 : nI (fgN xa ya ea) = nI (fgN xa ya ea + 0) := by rfl
      have e15 : nI 0 = nI (chgN (pF (chiC (inN (L k1).1 (L k1).2.1 (L k1).2.2))) true (fgN xa ya ea) 0) := by rfl
      have e16 : (eN (T 0) 201 (chiC (inN ((L k1).1) ((L k1).2.1) ((L k1).2.2)))) = (eN (T 0) 201 (rwS (chiC (inN (L k1).1 (L k1).2.1 (L k1).2.2)) (nI 1) (fgN xa ya ea) 0)) := by (rw [rwS_0])
      exact ⟨hS, lv_sub (lv_ex (lv_ex hl 0 rfl (congrArg Value.int e14)) 1 rfl (congrArg Value.int e15)) [0, 1, 2, 3, 4, 5, 6] rfl, hits, (by rw [← e16]; exact hrow), (by exact hwk)⟩
    · skip
      intro i H locs ls hi9 hin9 hnext
      obtain ⟨hS, hl, hits, hrow, hwk⟩ := hin9
      refine lv_iload hx hb dX4_span_45 (lv_at hl 0 rfl) ?_
      refine lv_aload_n hx hb dX4_span_47 rfl (lv_at hl 4 rfl) ?_
      refine lv_iconst (v := nI 1) hx hb dX4_span_48 (by decide) ?_
      refine q_iald hx hb hK hits 1 (rfl) (by omega) (by decide) dX4_span_49 ?_
      refine W.eq (g2 := F0 m 50 ls [.int (nI (lgN xa ya ea - 1)), .int (nI (fgN xa ya ea + i))]) rfl ?_
      refine lv_icmp_gt (tgt := 84) hx hb dX4_span_50 (by decide) (fun c50 => ?_) (fun c50 => ?_)
      · skip
        have c50 : lgN xa ya ea - 1 < fgN xa ya ea + i := (nc_lt (a := lgN xa ya ea - 1) (b := fgN xa ya ea + i) (by omega) (by omega)).mp c50
        omega
      · skip
        have c50 : ¬ (lgN xa ya ea - 1 < fgN xa ya ea + i) := fun q9 => c50 ((nc_lt (a := lgN xa ya ea - 1) (b := fgN xa ya ea + i) (by omega) (by omega)).mpr q9)
        refine lv_iload hx hb dX4_span_53 (lv_at hl 1 rfl) ?_
        refine lv_aload hx hb dX4_span_55 (lv_at hl 2 rfl) ?_
        refine lv_iload hx hb dX4_span_57 (lv_at hl 0 rfl) ?_
        refine q_zald hx hb hK hrow (fgN xa ya ea + i) (rfl) (by omega) (by decide) dX4_span_59 ?_
        rw [rwS_at]
        refine lv_iload_n hx hb dX4_span_60 rfl (lv_at hl 3 rfl) ?_
        refine lv_icmp_ne (tgt := 68) hx hb dX4_span_61 (by decide) (fun c61 => ?_) (fun c61 => ?_)
        · skip
          have c61 : ¬ (pF (chiC (inN (L k1).1 (L k1).2.1 (L k1).2.2)) (fgN xa ya ea + i) = true) := fun q9 => c61 ((chi_1).mpr q9)
          refine lv_iconst (v := nI 1) hx hb dX4_span_68 (by decide) ?_
          refine lv_iadd hx hb dX4_span_69 ?_
          rw [nI_add]
          refine lv_istore (lv' := [(5, .int (nI ((chgN (pF (chiC (inN (L k1).1 (L k1).2.1 (L k1).2.2))) true (fgN xa ya ea) i) + 1))), (6, .int (nI (fgN xa ya ea + i))), (4, .ref a13), (3, .int (nI 1)), (2, .ref a1), (1, .int (nI k1)), (0, .ref o)]) hx hb dX4_span_70 hl (by decide) rfl (fun ls hl => ?_)
          refine lv_aload hx hb dX4_span_72 (lv_at hl 2 rfl) ?_
          refine lv_iload hx hb dX4_span_74 (lv_at hl 1 rfl) ?_
          refine lv_iload_n hx hb dX4_span_76 rfl (lv_at hl 3 rfl) ?_
          refine q_zast hx hb hK hrow (fgN xa ya ea + i) (rfl) (by omega) (by decide) (rfl) hS (hA _ (by omega)) dX4_span_77 (fun H1 locs1 hw9 hz oq hS => ?_)
          replace hits := hits.ne oq (by omega)
          have hrow := hw9
          replace hwk := fun (z : Nat) (hz : z < Hw.size) => (oq z (by omega)).trans (hwk z hz)
          refine lv_iinc (v := nI (fgN xa ya ea + i + 1)) (lv' := [(6, .int (nI (fgN xa ya ea + i + 1))), (5, .int (nI ((chgN (pF (chiC (inN (L k1).1 (L k1).2.1 (L k1).2.2))) true (fgN xa ya ea) i) + 1))), (4, .ref a13), (3, .int (nI 1)), (2, .ref a1), (1, .int (nI k1)), (0, .ref o)]) hx hb dX4_span_78 hl (k := 1) rfl (inc_1 _) (by decide) rfl (fun ls hl => ?_)
          refine lv_goto (tgt := 45) hx hb dX4_span_81 (by decide) ?_
          have e17 : nI (fgN xa ya ea + i + 1) = nI (fgN xa ya ea + (i + 1)) := by rfl
          have e18 : nI ((chgN (pF (chiC (inN (L k1).1 (L k1).2.1 (L k1).2.2))) true (fgN xa ya ea) i) + 1) = nI (chgN (pF (chiC (inN (L k1).1 (L k1).2.1 (L k1).2.2))) true (fgN xa ya ea) (i + 1)) := by first | (rw [chgN_s, if_pos c61]; done) | (rw [chgN_s, if_pos c61]; rfl) | (rw [chgN_s, if_neg c61]; done) | (rw [chgN_s, if_neg c61]; rfl)
          have e19 : (eN (T 0) 201 (upd (rwS (chiC (inN (L k1).1 (L k1).2.1 (L k1).2.2)) (nI 1) (fgN xa ya ea) i) (fgN xa ya ea + i) (nI 1))) = (eN (T 0) 201 (rwS (chiC (inN (L k1).1 (L k1).2.1 (L k1).2.2)) (nI 1) (fgN xa ya ea) (i + 1))) := by (rw [rwS_s])
          exact hnext _ _ _ ⟨hS, lv_sub (lv_ex (lv_ex hl 0 rfl (congrArg Value.int e17)) 1 rfl (congrArg Value.int e18)) [0, 1, 2, 3, 4, 5, 6] rfl, hits, (by rw [← e19]; exact hrow), (by exact hwk)⟩
        · skip
          have c61 : pF (chiC (inN (L k1).1 (L k1).2.1 (L k1).2.2)) (fgN xa ya ea + i) = true := (chi_1).mp c61
          refine lv_iconst (v := nI 0) hx hb dX4_span_64 (by decide) ?_
          refine lv_goto (tgt := 69) hx hb dX4_span_65 (by decide) ?_
          refine lv_iadd hx hb dX4_span_69 ?_
          rw [nI_add]
          refine lv_istore (lv' := [(5, .int (nI ((chgN (pF (chiC (inN (L k1).1 (L k1).2.1 (L k1).2.2))) true (fgN xa ya ea) i) + 0))), (6, .int (nI (fgN xa ya ea + i))), (4, .ref a13), (3, .int (nI 1)), (2, .ref a1), (1, .int (nI k1)), (0, .ref o)]) hx hb dX4_span_70 hl (by decide) rfl (fun ls hl => ?_)
          refine lv_aload hx hb dX4_span_72 (lv_at hl 2 rfl) ?_
          refine lv_iload hx hb dX4_span_74 (lv_at hl 1 rfl) ?_
          refine lv_iload_n hx hb dX4_span_76 rfl (lv_at hl 3 rfl) ?_
          refine q_zast hx hb hK hrow (fgN xa ya ea + i) (rfl) (by omega) (by decide) (rfl) hS (hA _ (by omega)) dX4_span_77 (fun H1 locs1 hw9 hz oq hS => ?_)
          replace hits := hits.ne oq (by omega)
          have hrow := hw9
          replace hwk := fun (z : Nat) (hz : z < Hw.size) => (oq z (by omega)).trans (hwk z hz)
          refine lv_iinc (v := nI (fgN xa ya ea + i + 1)) (lv' := [(6, .int (nI (fgN xa ya ea + i + 1))), (5, .int (nI ((chgN (pF (chiC (inN (L k1).1 (L k1).2.1 (L k1).2.2))) true (fgN xa ya ea) i) + 0))), (4, .ref a13), (3, .int (nI 1)), (2, .ref a1), (1, .int (nI k1)), (0, .ref o)]) hx hb dX4_span_78 hl (k := 1) rfl (inc_1 _) (by decide) rfl (fun ls hl => ?_)
          refine lv_goto (tgt := 45) hx hb dX4_span_81 (by decide) ?_
          have e20 : nI (fgN xa ya ea + i + 1) = nI (fgN xa ya ea + (i + 1)) := by rfl
          have e21 : nI ((chgN (pF (chiC (inN (L k1).1 (L k1).2.1 (L k1).2.2))) true (fgN xa ya ea) i) + 0) = nI (chgN (pF (chiC (inN (L k1).1 (L k1).2.1 (L k1).2.2))) true (fgN xa ya ea) (i + 1)) := by first | (rw [chgN_s, if_pos c61]; done) | (rw [chgN_s, if_pos c61]; rfl) | (rw [chgN_s, if_neg c61]; done) | (rw [chgN_s, if_neg c61]; rfl)
          have e22 : (eN (T 0) 201 (upd (rwS (chiC (inN (L k1).1 (L k1).2.1 (L k1).2.2)) (nI 1) (fgN xa ya ea) i) (fgN xa ya ea + i) (nI 1))) = (eN (T 0) 201 (rwS (chiC (inN (L k1).1 (L k1).2.1 (L k1).2.2)) (nI 1) (fgN xa ya ea) (i + 1))) := by (rw [rwS_s])
          exact hnext _ _ _ ⟨hS, lv_sub (lv_ex (lv_ex hl 0 rfl (congrArg Value.int e20)) 1 rfl (congrArg Value.int e21)) [0, 1, 2, 3, 4, 5, 6] rfl, hits, (by rw [← e22]; exact hrow), (by exact hwk)⟩
    · skip
      intro H locs ls hin9
      obtain ⟨hS, hl, hits, hrow, hwk⟩ := hin9
      refine lv_iload hx hb dX4_span_45 (lv_at hl 0 rfl) ?_
      refine lv_aload_n hx hb dX4_span_47 rfl (lv_at hl 4 rfl) ?_
      refine lv_iconst (v := nI 1) hx hb dX4_span_48 (by decide) ?_
      refine q_iald hx hb hK hits 1 (rfl) (by omega) (by decide) dX4_span_49 ?_
      refine W.eq (g2 := F0 m 50 ls [.int (nI (lgN xa ya ea - 1)), .int (nI (fgN xa ya ea + (lgN xa ya ea - fgN xa ya ea)))]) rfl ?_
      refine lv_icmp_gt (tgt := 84) hx hb dX4_span_50 (by decide) (fun c50 => ?_) (fun c50 => ?_)
      · skip
        have c50 : lgN xa ya ea - 1 < fgN xa ya ea + (lgN xa ya ea - fgN xa ya ea) := (nc_lt (a := lgN xa ya ea - 1) (b := fgN xa ya ea + (lgN xa ya ea - fgN xa ya ea)) (by omega) (by omega)).mp c50
        refine lv_aload_n hx hb dX4_span_84 rfl (lv_at hl 6 rfl) ?_
        refine q_get (v := .ref (o + 38)) hx hb hts hin4 hown hK (hw.ob.kept (hwk _ hw.ob.lt)) rfl 3 (by decide) (hts (.fieldLink RX4 18 "PuddingstoneLineLaw$Stones" "sets" "[[[I") (by decide +kernel)) (fun _ h9 => h9) rfl dX4_span_85 ?_
        refine lv_iload_n hx hb dX4_span_88 rfl (lv_at hl 5 rfl) ?_
        refine lv_aload hx hb dX4_span_89 (lv_at hl 2 rfl) ?_
        obtain ⟨b3, hb3⟩ : ∃ z : Nat, z = H.size := ⟨_, rfl⟩
        have lhits_b3 : a1 < b3 := by have h8 := hits.lt; omega
        have lhrow_b3 : a13 < b3 := by have h8 := hrow.lt; omega
        have ln_b3 : s.heap.size ≤ b3 := by have h8 := hS.1; omega
        have lw_b3 : Hw.size ≤ b3 := by have h8 := kp_sz hwk; omega
        refine va_callr (va_runS (As := [.ref a13]) (rest := [.int (nI k1), .ref (o + 38)]) ⟨hx, hb, hml, hown, hts⟩ (conX4_spans l D T b3 a13 (rwS (chiC (inN (L k1).1 (L k1).2.1 (L k1).2.2)) (nI 1) (fgN xa ya ea) (lgN xa ya ea - fgN xa ya ea))) (va_cwS 1 hts gX4_span_X4_spans rfl rfl rfl (by decide +kernel) ⟨Nat.le_of_ble_eq_true rfl, Nat.le_of_ble_eq_true rfl⟩) (preS hK ⟨hb3.symm, hrow⟩) rfl rfl hl.1 rfl (lv_room (Nat.le_of_ble_eq_true rfl)) dX4_span_91 ⟨Nat.le_of_ble_eq_true rfl, Nat.le_of_ble_eq_true rfl⟩) hS (fun q _ h9 => (hA q (by have h8 : b3 ≤ q := h9; omega))) (fun q h9 => (hA q (by have h8 : b3 ≤ q := h9; omega))) (fun u ra t H1 locs1 ht hvm hw9 hB hz1 hk1 hS => ?_)
        try dsimp only at hB
        rw [ht] at hB
        obtain ⟨a23, rfl⟩ : ∃ z, z = ra := ⟨_, rfl⟩
        replace hits := hits.kept (hk1 _ hits.lt (fun h9 => by have h8 : b3 ≤ _ := h9; omega))
        replace hrow := hrow.kept (hk1 _ hrow.lt (fun h9 => by have h8 : b3 ≤ _ := h9; omega))
        obtain ⟨hra, adm, hil⟩ := hB
        have hrep := (spS_ok (pF (rwS (chiC (inN (L k1).1 (L k1).2.1 (L k1).2.2)) (nI 1) (fgN xa ya ea) (lgN xa ya ea - fgN xa ya ea))) (Nat.le_refl 201)).1
        replace hwk := fun (z : Nat) (hz : z < Hw.size) => (hk1 z (by omega) (fun h9 => by have h8 : b3 ≤ z := h9; omega)).trans (hwk z hz)
        refine q_aastq hx hb hK (hw.ss.kept (hwk _ hw.ss.lt)) hil.1 k1 rfl (by omega) (by decide) hS (hA _ (by omega)) dX4_span_94 (fun H1 locs1 hw9 hz oq hS => ?_)
        replace hw := (hw.old hwk).setL (k := k1) (m := a23) (S := (spS (pF (rwS (chiC (inN (L k1).1 (L k1).2.1 (L k1).2.2)) (nI 1) (fgN xa ya ea) (lgN xa ya ea - fgN xa ya ea))) 201)) (by omega) hrep.1.le ⟨_, hil.wk (by omega)⟩ hw9 oq
        replace hits := hits.ne oq (by omega)
        replace hrow := hrow.ne oq (by omega)
        replace hil := hil.up (m := o + 53) (by omega) (by omega) (fun z h8 h7 => oq z (by omega))
        refine lv_aload_n hx hb dX4_span_95 rfl (lv_at hl 6 rfl) ?_
        refine q_get (v := .ref (ad 0)) hx hb hts hin4 hown hK hw.ob rfl 0 (by decide) (hts (.fieldLink RX4 10 "PuddingstoneLineLaw$Stones" "m" "LPuddingstoneLine;") (by decide +kernel)) (fun _ h9 => h9) rfl dX4_span_96 ?_
        refine lv_iload_n hx hb dX4_span_99 rfl (lv_at hl 5 rfl) ?_
        refine lv_aload_n hx hb dX4_span_100 rfl (lv_at hl 4 rfl) ?_
        refine lv_iconst (v := nI 2) hx hb dX4_span_101 (by decide) ?_
        refine q_iald hx hb hK hits 2 (rfl) (by omega) (by decide) dX4_span_102 ?_
        refine W.eq (g2 := F0 m 103 ls [.int (nI xa), .int (nI k1), .ref (ad 0)]) rfl ?_
        refine lv_aload_n hx hb dX4_span_103 rfl (lv_at hl 4 rfl) ?_
        refine lv_iconst (v := nI 3) hx hb dX4_span_104 (by decide) ?_
        refine q_iald hx hb hK hits 3 (rfl) (by omega) (by decide) dX4_span_105 ?_
        refine W.eq (g2 := F0 m 106 ls [.int (nI ya), .int (nI xa), .int (nI k1), .ref (ad 0)]) rfl ?_
        refine lv_aload_n hx hb dX4_span_106 rfl (lv_at hl 4 rfl) ?_
        refine lv_iconst (v := nI 4) hx hb dX4_span_107 (by decide) ?_
        refine q_iald hx hb hK hits 4 (rfl) (by omega) (by decide) dX4_span_108 ?_
        refine W.eq (g2 := F0 m 109 ls [.int (nI ea), .int (nI ya), .int (nI xa), .int (nI k1), .ref (ad 0)]) rfl ?_
        refine lv_iload_n hx hb dX4_span_109 rfl (lv_at hl 3 rfl) ?_
        refine va_calli (va_runV (As := [.int (nI k1), .int (nI xa), .int (nI ya), .int (nI ea), .int (nI 1)]) (rest := []) ⟨hx, hb, hml, hown, hts⟩ (conX3_span l D T ad F V sr C k1 xa ya ea (nI 1) (by omega) (by omega) (by omega) (by omega) rfl) (cwV 5 hts gX4_span_X3_span rfl rfl rfl (by decide +kernel) ⟨Nat.le_of_ble_eq_true rfl, Nat.le_of_ble_eq_true rfl⟩) (preV hK hw.pl.o rfl hw.pl) rfl rfl hl.1 rfl (lv_room (Nat.le_of_ble_eq_true rfl)) dX4_span_110 ⟨Nat.le_of_ble_eq_true rfl, Nat.le_of_ble_eq_true rfl⟩) hS (fun q _ h9 => (by obtain ⟨i9, h8, rfl⟩ := h9; exact hA _ (by have := hw.1 i9 h8; omega))) (fun q h9 => (by obtain ⟨i9, h8, rfl⟩ := h9; exact hA _ (by have := hw.1 i9 h8; omega))) (fun r u t H1 locs1 ht hvm hw9 hB hz1 hk1 hS => ?_)
        try dsimp only at hB
        rw [ht] at hB
        rw [hw9]
        replace hits := hits.kept (hk1 _ hits.lt (fun ⟨i9, h8, h7⟩ => by have := hw.1 i9 h8; omega))
        replace hrow := hrow.kept (hk1 _ hrow.lt (fun ⟨i9, h8, h7⟩ => by have := hw.1 i9 h8; omega))
        replace hil := hil.up (m := o + 53) (by omega) (by omega) (fun z h8 h7 => hk1 z h7 (fun ⟨i9, h6, h5⟩ => by have := hw.1 i9 h6; omega))
        replace hw := hw.setP hB (fun q h1 h2 => hk1 q h1 h2)
        refine lv_iload hx hb dX4_span_113 (lv_at hl 1 rfl) ?_
        have hans := span_cnt hR1 (v := nI 1) (b := true) (lo := fgN xa ya ea) (hi := lgN xa ya ea) (by omega) (by omega) rfl
        refine lv_icmp_ne (tgt := 122) hx hb dX4_span_115 (by decide) (fun c115 => ?_) (fun c115 => ?_)
        · skip
          exact absurd hans c115
        · skip
          refine lv_iconst (v := nI 1) hx hb dX4_span_118 (by decide) ?_
          refine lv_goto (tgt := 123) hx hb dX4_span_119 (by decide) ?_
          exact W.zret (v := nI 1) hx hb hr (rfl) (fun t ht _ => ⟨⟨nI 1, (), rfl, by rfl, by dsimp only; rw [ht]; exact ⟨_, _, _, _, _, _, _, _, _, by omega, (by have h8 := hS.1; omega), hw, hinv.put hinv.1 up_ne (by rw [va_up_s]; exact span_rep hR1 (by omega) (by omega))⟩⟩, hS.F ht⟩) hS.2.2 dX4_span_123
      · skip
        have c50 : ¬ (lgN xa ya ea - 1 < fgN xa ya ea + (lgN xa ya ea - fgN xa ya ea)) := fun q9 => c50 ((nc_lt (a := lgN xa ya ea - 1) (b := fgN xa ya ea + (lgN xa ya ea - fgN xa ya ea)) (by omega) (by omega)).mpr q9)
        omega
