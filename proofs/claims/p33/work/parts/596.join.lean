/-! STONES: JOIN -/
set_option maxHeartbeats 4000000 in
set_option maxRecDepth 100000 in
theorem conX4_join (l : Launch) (D : va_G) (T : Nat → ClassId) (ad : Nat → Nat) (o sc N : Nat) (sf : Nat → Int32) (d : Nat) (hN : N < 2 ^ 30) (hd : d + 20 < 2 ^ 30) : Met l yX4_join wsX4_join ({ frames := 3, cells := 404, slots := 21105, locals := 105 }) (cP D T [.ref o] (fun H => ST D T ad o sc N sf d H)) (va_Qi (fun (r : Int32) (_ : Unit) => r = nI 1) (fun _ t => ST D T ad o sc N sf (d + 10) t.heap) (fun z : Nat => o ≤ z)) 404 21105 (fun z : Nat => o ≤ z) := by
  refine Met.ofW (cc := cX4_join) (maxL := 8) (ret := (some .boolean)) (by decide) rfl ?_
  intro p e s m args below meth c s₁ B hml hv9
  obtain ⟨rfl, hK, ⟨dr, F, V, sr, C, L, U, la, vv, hdr, ho9, hw, hinv⟩⟩ := hv9
  have hx := B.exec
  have hb := B.bytes
  have hr := B.returns
  have hts := atoms_spec (ws := wsX4_join) B.pre
  have hown : s.vm.findClass RX4 = some m.cls := findClass_of_methodNamed B.named
  have hlocks := B.notSynchronized
  have hin4 : ∀ w ∈ wsX40, w ∈ wsX4_join := by decide +kernel
  generalize hAe : (fun z : Nat => o ≤ z) = A
  have hA : ∀ z : Nat, o ≤ z → A z := fun z h9 => by subst hAe; exact h9
  have hS : va_S A s.heap s.heap [] := va_S.rf
  have hl := lv_entry ([.ref o]) (n := 8) (Nat.le_of_ble_eq_true rfl)
  rw [lg_entry_eq]
  generalize (lg_sl ([.ref o]) ++ List.replicate (8 - (lg_sl ([.ref o])).length) Slot.unset).toArray = ls at hl ⊢
  have hl : lv_has ls 8 [(0, .ref o)] := hl
  have hA_o : A o := hA o (Nat.le_refl _)
  have hlt9 := hw.lt
  refine lv_aload_n hx hb dX4_join_0 rfl (lv_at hl 0 rfl) ?_
  refine lv_bipush (v := nI 8) hx hb dX4_join_1 (by decide) ?_
  refine va_calli (va_runV (As := [.int (nI 8)]) (rest := []) ⟨hx, hb, hml, hown, hts⟩ (conX4_draw l D T ad o sc N sf dr F V sr C L U la vv (by omega) (by omega) 8 (by omega) (by omega)) (cwV 1 hts gX4_join_X4_draw rfl rfl rfl (by decide +kernel) ⟨Nat.le_of_ble_eq_true rfl, Nat.le_of_ble_eq_true rfl⟩) (preV hK hw.ob rfl hw) rfl rfl hl.1 rfl (lv_room (Nat.le_of_ble_eq_true rfl)) dX4_join_3 ⟨Nat.le_of_ble_eq_true rfl, Nat.le_of_ble_eq_true rfl⟩) hS (fun q _ h9 => (by have h8 : q = o := h9; rw [h8]; exact hA_o)) (fun q h9 => (by have h8 : q = o := h9; rw [h8]; exact hA_o)) (fun r u t H1 locs1 ht hvm hw9 hB hz1 hk1 hS => ?_)
  try dsimp only at hB
  rw [ht] at hB
  obtain ⟨k1, hk1, rfl⟩ := hw9
  replace hw := hB
  refine lv_istore_n (lv' := [(1, .int (nI k1)), (0, .ref o)]) hx hb dX4_join_6 rfl hl (by decide) rfl (fun ls hl => ?_)
  refine lv_aload_n hx hb dX4_join_7 rfl (lv_at hl 1 rfl) ?_
  refine lv_bipush (v := nI 8) hx hb dX4_join_8 (by decide) ?_
  refine va_calli (va_runV (As := [.int (nI 8)]) (rest := []) ⟨hx, hb, hml, hown, hts⟩ (conX4_draw l D T ad o sc N sf (dr + 1) F V sr C L U la vv (by omega) (by omega) 8 (by omega) (by omega)) (cwV 1 hts gX4_join_X4_draw rfl rfl rfl (by decide +kernel) ⟨Nat.le_of_ble_eq_true rfl, Nat.le_of_ble_eq_true rfl⟩) (preV hK hw.ob rfl hw) rfl rfl hl.1 rfl (lv_room (Nat.le_of_ble_eq_true rfl)) dX4_join_10 ⟨Nat.le_of_ble_eq_true rfl, Nat.le_of_ble_eq_true rfl⟩) hS (fun q _ h9 => (by have h8 : q = o := h9; rw [h8]; exact hA_o)) (fun q h9 => (by have h8 : q = o := h9; rw [h8]; exact hA_o)) (fun r u t H1 locs1 ht hvm hw9 hB hz1 hk1 hS => ?_)
  try dsimp only at hB
  rw [ht] at hB
  obtain ⟨k2, hk2, rfl⟩ := hw9
  replace hw := hB
  refine lv_istore_n (lv' := [(2, .int (nI k2)), (1, .int (nI k1)), (0, .ref o)]) hx hb dX4_join_13 rfl hl (by decide) rfl (fun ls hl => ?_)
  refine lv_aload_n hx hb dX4_join_14 rfl (lv_at hl 2 rfl) ?_
  refine lv_bipush (v := nI 8) hx hb dX4_join_15 (by decide) ?_
  refine va_calli (va_runV (As := [.int (nI 8)]) (rest := []) ⟨hx, hb, hml, hown, hts⟩ (conX4_draw l D T ad o sc N sf (dr + 1 + 1) F V sr C L U la vv (by omega) (by omega) 8 (by omega) (by omega)) (cwV 1 hts gX4_join_X4_draw rfl rfl rfl (by decide +kernel) ⟨Nat.le_of_ble_eq_true rfl, Nat.le_of_ble_eq_true rfl⟩) (preV hK hw.ob rfl hw) rfl rfl hl.1 rfl (lv_room (Nat.le_of_ble_eq_true rfl)) dX4_join_17 ⟨Nat.le_of_ble_eq_true rfl, Nat.le_of_ble_eq_true rfl⟩) hS (fun q _ h9 => (by have h8 : q = o := h9; rw [h8]; exact hA_o)) (fun q h9 => (by have h8 : q = o := h9; rw [h8]; exact hA_o)) (fun r u t H1 locs1 ht hvm hw9 hB hz1 hk1 hS => ?_)
  try dsimp only at hB
  rw [ht] at hB
  obtain ⟨k3, hk3, rfl⟩ := hw9
  replace hw := hB
  refine lv_istore_n (lv' := [(3, .int (nI k3)), (2, .int (nI k2)), (1, .int (nI k1)), (0, .ref o)]) hx hb dX4_join_20 rfl hl (by decide) rfl (fun ls hl => ?_)
  refine lv_aload_n hx hb dX4_join_21 rfl (lv_at hl 3 rfl) ?_
  refine lv_iconst (v := nI 4) hx hb dX4_join_22 (by decide) ?_
  refine va_calli (va_runV (As := [.int (nI 4)]) (rest := []) ⟨hx, hb, hml, hown, hts⟩ (conX4_draw l D T ad o sc N sf (dr + 1 + 1 + 1) F V sr C L U la vv (by omega) (by omega) 4 (by omega) (by omega)) (cwV 1 hts gX4_join_X4_draw rfl rfl rfl (by decide +kernel) ⟨Nat.le_of_ble_eq_true rfl, Nat.le_of_ble_eq_true rfl⟩) (preV hK hw.ob rfl hw) rfl rfl hl.1 rfl (lv_room (Nat.le_of_ble_eq_true rfl)) dX4_join_23 ⟨Nat.le_of_ble_eq_true rfl, Nat.le_of_ble_eq_true rfl⟩) hS (fun q _ h9 => (by have h8 : q = o := h9; rw [h8]; exact hA_o)) (fun q h9 => (by have h8 : q = o := h9; rw [h8]; exact hA_o)) (fun r u t H1 locs1 ht hvm hw9 hB hz1 hk1 hS => ?_)
  try dsimp only at hB
  rw [ht] at hB
  obtain ⟨k4, hk4, rfl⟩ := hw9
  replace hw := hB
  refine lv_istore (lv' := [(4, .int (nI k4)), (3, .int (nI k3)), (2, .int (nI k2)), (1, .int (nI k1)), (0, .ref o)]) hx hb dX4_join_26 hl (by decide) rfl (fun ls hl => ?_)
  refine lv_sipush (v := nI 201) hx hb dX4_join_28 (by decide) ?_
  obtain ⟨Hw, hHw⟩ : ∃ z : Heap, z = H1 := ⟨_, rfl⟩
  obtain ⟨b1, hb1⟩ : ∃ z : Nat, z = H1.size := ⟨_, rfl⟩
  have ln_b1 : s.heap.size ≤ b1 := by have h8 := hS.1; omega
  have lw_b1 : Hw.size ≤ b1 := by rw [hHw]; omega
  refine q_newz hx hb (hts (.arrayClass .boolean) (by decide +kernel)) hK 201 rfl (by decide) (by show _ ≤ 404; omega) (by show _ ≤ 21105; omega) hS dX4_join_31 (fun H1 hw9 z1 o1 hS => ?_)
  rw [← hb1] at hw9 ⊢
  have nb1 := hw9
  have sb1 : H1.size = b1 + 1 := by omega
  rw [← hHw] at hw
  have hwk : ∀ z : Nat, z < Hw.size → H1[z]? = Hw[z]? := by rw [hHw]; exact fun z hz => o1 z (by omega)
  refine lv_astore (lv' := [(5, .ref b1), (4, .int (nI k4)), (3, .int (nI k3)), (2, .int (nI k2)), (1, .int (nI k1)), (0, .ref o)]) hx hb dX4_join_33 hl (by decide) rfl (fun ls hl => ?_)
  refine lv_iconst (v := nI 0) hx hb dX4_join_35 (by decide) ?_
  refine lv_istore (lv' := [(6, .int (nI 0)), (5, .ref b1), (4, .int (nI k4)), (3, .int (nI k3)), (2, .int (nI k2)), (1, .int (nI k1)), (0, .ref o)]) hx hb dX4_join_36 hl (by decide) rfl (fun ls hl => ?_)
  refine q_for (fun (i : Nat) (H : Heap) (locs : List Loc) (ls : Array Slot) => va_S A s.heap H locs ∧ lv_has ls 8 [(6, .int (nI i)), (5, .ref b1), (4, .int (nI k4)), (3, .int (nI k3)), (2, .int (nI k2)), (1, .int (nI k1)), (0, .ref o)] ∧ pAt D H b1 (eN (T 0) 201 (rowP (fun g => jvI (pB (F k2) g) (pB (F k3) g) k4) i)) ∧ ∀ z : Nat, z < Hw.size → H[z]? = Hw[z]?) (N := 201) 0 (by omega) ?_ ?_ ?_
  · skip
    have e1 : (eN (T 0) 201 zr0) = (eN (T 0) 201 (rowP (fun g => jvI (pB (F k2) g) (pB (F k3) g) k4) 0)) := by (rw [rowP_0])
    exact ⟨hS, lv_sub hl [0, 1, 2, 3, 4, 5, 6] rfl, (by rw [← e1]; exact nb1), (by exact hwk)⟩
  · skip
    intro i H locs ls hi9 hin9 hnext
    obtain ⟨hS, hl, nb1, hwk⟩ := hin9
    refine lv_iload hx hb dX4_join_38 (lv_at hl 0 rfl) ?_
    refine lv_sipush (v := nI 200) hx hb dX4_join_40 (by decide) ?_
    refine lv_icmp_gt (tgt := 156) hx hb dX4_join_43 (by decide) (fun c43 => ?_) (fun c43 => ?_)
    · skip
      have c43 : 200 < i := (nc_lt (a := 200) (b := i) (by omega) (by omega)).mp c43
      omega
    · skip
      have c43 : ¬ (200 < i) := fun q9 => c43 ((nc_lt (a := 200) (b := i) (by omega) (by omega)).mpr q9)
      refine lv_aload_n hx hb dX4_join_46 rfl (lv_at hl 6 rfl) ?_
      refine q_get (v := .ref (o + 38)) hx hb hts hin4 hown hK (hw.ob.kept (hwk _ hw.ob.lt)) rfl 3 (by decide) (hts (.fieldLink RX4 18 "PuddingstoneLineLaw$Stones" "sets" "[[[I") (by decide +kernel)) (fun _ h9 => h9) rfl dX4_join_47 ?_
      refine lv_iload_n hx hb dX4_join_50 rfl (lv_at hl 4 rfl) ?_
      refine q_aald hx hb hK 8 rfl rfl (hw.ss.kept (hwk _ hw.ss.lt)) k2 rfl (by omega) (by decide) (b := la k2) rfl dX4_join_51 ?_
      obtain ⟨hla1, hln1, ads1, hi1⟩ := hw.il k2 (by omega)
      have hR1 := hinv.2.1 k2 (by omega)
      refine lv_iload hx hb dX4_join_52 (lv_at hl 0 rfl) ?_
      refine vp_callSi (va_runS (As := [.ref (la k2), .int (nI i)]) (rest := []) ⟨hx, hb, hml, hown, hts⟩ (conX4_isIn l D T (o + 53) (la k2) (fun k => ads1 k) ((L k2).1) ((L k2).2.1) ((L k2).2.2) (fun k hk => hR1.sp hk) hR1.1.le i (by omega)) (va_cwS 2 hts gX4_join_X4_isIn rfl rfl rfl (by decide +kernel) ⟨Nat.le_of_ble_eq_true rfl, Nat.le_of_ble_eq_true rfl⟩) (preS hK ((hi1.old hwk))) rfl rfl hl.1 rfl (lv_room (Nat.le_of_ble_eq_true rfl)) dX4_join_54 ⟨by show _ ≤ 404; omega, by show _ ≤ 21105; omega⟩).run (fun r2 hr2 => ?_)
      rcases hr2 with ⟨rfl, hj1⟩ | ⟨rfl, hj1⟩
      · skip
        replace hj1 := in_pB hR1 (by omega) hj1
        refine W.eq (g2 := F0 m 57 ls [.int (nI 1)]) rfl ?_
        refine lv_if_eq (tgt := 64) hx hb dX4_join_57 (by decide) (fun c57 => ?_) (fun c57 => ?_)
        · skip
          have c57 : 1 = 0 := (nc_eq (a := 1) (b := 0) (by omega) (by omega)).mp c57
          omega
        · skip
          have c57 : ¬ (1 = 0) := fun q9 => c57 ((nc_eq (a := 1) (b := 0) (by omega) (by omega)).mpr q9)
          refine lv_iconst (v := nI 1) hx hb dX4_join_60 (by decide) ?_
          refine lv_goto (tgt := 65) hx hb dX4_join_61 (by decide) ?_
          refine lv_aload_n hx hb dX4_join_65 rfl (lv_at hl 6 rfl) ?_
          refine q_get (v := .ref (o + 38)) hx hb hts hin4 hown hK (hw.ob.kept (hwk _ hw.ob.lt)) rfl 3 (by decide) (hts (.fieldLink RX4 18 "PuddingstoneLineLaw$Stones" "sets" "[[[I") (by decide +kernel)) (fun _ h9 => h9) rfl dX4_join_66 ?_
          refine lv_iload_n hx hb dX4_join_69 rfl (lv_at hl 3 rfl) ?_
          refine q_aald hx hb hK 8 rfl rfl (hw.ss.kept (hwk _ hw.ss.lt)) k3 rfl (by omega) (by decide) (b := la k3) rfl dX4_join_70 ?_
          obtain ⟨hla2, hln2, ads2, hi2⟩ := hw.il k3 (by omega)
          have hR2 := hinv.2.1 k3 (by omega)
          refine lv_iload hx hb dX4_join_71 (lv_at hl 0 rfl) ?_
          refine vp_callSi (va_runS (As := [.ref (la k3), .int (nI i)]) (rest := [.int (nI 1)]) ⟨hx, hb, hml, hown, hts⟩ (conX4_isIn l D T (o + 53) (la k3) (fun k => ads2 k) ((L k3).1) ((L k3).2.1) ((L k3).2.2) (fun k hk => hR2.sp hk) hR2.1.le i (by omega)) (va_cwS 2 hts gX4_join_X4_isIn rfl rfl rfl (by decide +kernel) ⟨Nat.le_of_ble_eq_true rfl, Nat.le_of_ble_eq_true rfl⟩) (preS hK ((hi2.old hwk))) rfl rfl hl.1 rfl (lv_room (Nat.le_of_ble_eq_true rfl)) dX4_join_73 ⟨by show _ ≤ 404; omega, by show _ ≤ 21105; omega⟩).run (fun r3 hr3 => ?_)
          rcases hr3 with ⟨rfl, hj2⟩ | ⟨rfl, hj2⟩
          · skip
            replace hj2 := in_pB hR2 (by omega) hj2
            refine W.eq (g2 := F0 m 76 ls [.int (nI 1), .int (nI 1)]) rfl ?_
            refine lv_if_eq (tgt := 83) hx hb dX4_join_76 (by decide) (fun c76 => ?_) (fun c76 => ?_)
            · skip
              have c76 : 1 = 0 := (nc_eq (a := 1) (b := 0) (by omega) (by omega)).mp c76
              omega
            · skip
              have c76 : ¬ (1 = 0) := fun q9 => c76 ((nc_eq (a := 1) (b := 0) (by omega) (by omega)).mpr q9)
              refine lv_iconst (v := nI 2) hx hb dX4_join_79 (by decide) ?_
              refine lv_goto (tgt := 84) hx hb dX4_join_80 (by decide) ?_
              refine lv_iadd hx hb dX4_join_84 ?_
              rw [nI_add]
              refine lv_istore (lv' := [(7, .int (nI 3)), (6, .int (nI i)), (5, .ref b1), (4, .int (nI k4)), (3, .int (nI k3)), (2, .int (nI k2)), (1, .int (nI k1)), (0, .ref o)]) hx hb dX4_join_85 hl (by decide) rfl (fun ls hl => ?_)
              refine lv_aload hx hb dX4_join_87 (lv_at hl 2 rfl) ?_
              refine lv_iload hx hb dX4_join_89 (lv_at hl 1 rfl) ?_
              refine lv_iload hx hb dX4_join_91 (lv_at hl 0 rfl) ?_
              refine lv_iconst (v := nI 3) hx hb dX4_join_93 (by decide) ?_
              refine lv_icmp_ne (tgt := 111) hx hb dX4_join_94 (by decide) (fun c94 => ?_) (fun c94 => ?_)
              · skip
                have c94 : ¬ (3 = 3) := fun q9 => c94 ((nc_eq (a := 3) (b := 3) (by omega) (by omega)).mpr q9)
                omega
              · skip
                have c94 : 3 = 3 := (nc_eq (a := 3) (b := 3) (by omega) (by omega)).mp c94
                refine lv_iload hx hb dX4_join_97 (lv_at hl 3 rfl) ?_
                refine lv_iconst (v := nI 2) hx hb dX4_join_99 (by decide) ?_
                refine lv_icmp_ge (tgt := 107) hx hb dX4_join_100 (by decide) (fun c100 => ?_) (fun c100 => ?_)
                · skip
                  have c100 : 2 ≤ k4 := (nc_le (a := 2) (b := k4) (by omega) (by omega)).mp c100
                  refine lv_iconst (v := nI 0) hx hb dX4_join_107 (by decide) ?_
                  refine lv_goto (tgt := 149) hx hb dX4_join_108 (by decide) ?_
                  refine q_zast hx hb hK nb1 i (rfl) (by omega) (by decide) (rfl) hS (hA _ (by omega)) dX4_join_149 (fun H1 locs1 hw9 hz oq hS => ?_)
                  have nb1 := hw9
                  replace hwk := fun (z : Nat) (hz : z < Hw.size) => (oq z (by omega)).trans (hwk z hz)
                  refine lv_iinc (v := nI (i + 1)) (lv' := [(6, .int (nI (i + 1))), (7, .int (nI 3)), (5, .ref b1), (4, .int (nI k4)), (3, .int (nI k3)), (2, .int (nI k2)), (1, .int (nI k1)), (0, .ref o)]) hx hb dX4_join_150 hl (k := 1) rfl (inc_1 _) (by decide) rfl (fun ls hl => ?_)
                  refine lv_goto (tgt := 38) hx hb dX4_join_153 (by decide) ?_
                  have e4 : (eN (T 0) 201 (upd (rowP (fun g => jvI (pB (F k2) g) (pB (F k3) g) k4) i) i (nI 0))) = (eN (T 0) 201 (rowP (fun g => jvI (pB (F k2) g) (pB (F k3) g) k4) (i + 1))) := by (rw [rowP_u (by show _ = jvI (pB (F k2) i) (pB (F k3) i) k4; rw [hj1, hj2]; unfold jvI; first | (simp only [if_true, if_false, Bool.false_eq_true, eq_self]; done) | (simp only [if_true, if_false, Bool.false_eq_true, eq_self]; split <;> first | rfl | omega))])
                  exact hnext _ _ _ ⟨hS, lv_sub hl [0, 2, 3, 4, 5, 6, 7] rfl, (by rw [← e4]; exact nb1), (by exact hwk)⟩
                · skip
                  have c100 : ¬ (2 ≤ k4) := fun q9 => c100 ((nc_le (a := 2) (b := k4) (by omega) (by omega)).mpr q9)
                  refine lv_iconst (v := nI 1) hx hb dX4_join_103 (by decide) ?_
                  refine lv_goto (tgt := 149) hx hb dX4_join_104 (by decide) ?_
                  refine q_zast hx hb hK nb1 i (rfl) (by omega) (by decide) (rfl) hS (hA _ (by omega)) dX4_join_149 (fun H1 locs1 hw9 hz oq hS => ?_)
                  have nb1 := hw9
                  replace hwk := fun (z : Nat) (hz : z < Hw.size) => (oq z (by omega)).trans (hwk z hz)
                  refine lv_iinc (v := nI (i + 1)) (lv' := [(6, .int (nI (i + 1))), (7, .int (nI 3)), (5, .ref b1), (4, .int (nI k4)), (3, .int (nI k3)), (2, .int (nI k2)), (1, .int (nI k1)), (0, .ref o)]) hx hb dX4_join_150 hl (k := 1) rfl (inc_1 _) (by decide) rfl (fun ls hl => ?_)
                  refine lv_goto (tgt := 38) hx hb dX4_join_153 (by decide) ?_
                  have e5 : (eN (T 0) 201 (upd (rowP (fun g => jvI (pB (F k2) g) (pB (F k3) g) k4) i) i (nI 1))) = (eN (T 0) 201 (rowP (fun g => jvI (pB (F k2) g) (pB (F k3) g) k4) (i + 1))) := by (rw [rowP_u (by show _ = jvI (pB (F k2) i) (pB (F k3) i) k4; rw [hj1, hj2]; unfold jvI; first | (simp only [if_true, if_false, Bool.false_eq_true, eq_self]; done) | (simp only [if_true, if_false, Bool.false_eq_true, eq_self]; split <;> first | rfl | omega))])
                  exact hnext _ _ _ ⟨hS, lv_sub hl [0, 2, 3, 4, 5, 6, 7] rfl, (by rw [← e5]; exact nb1), (by exact hwk)⟩
          · skip
            replace hj2 := nin_pB hR2 (by omega) hj2
            refine W.eq (g2 := F0 m 76 ls [.int (nI 0), .int (nI 1)]) rfl ?_
            refine lv_if_eq (tgt := 83) hx hb dX4_join_76 (by decide) (fun c76 => ?_) (fun c76 => ?_)
            · skip
              have c76 : 0 = 0 := (nc_eq (a := 0) (b := 0) (by omega) (by omega)).mp c76
              refine lv_iconst (v := nI 0) hx hb dX4_join_83 (by decide) ?_
              refine lv_iadd hx hb dX4_join_84 ?_
              rw [nI_add]
              refine lv_istore (lv' := [(7, .int (nI 1)), (6, .int (nI i)), (5, .ref b1), (4, .int (nI k4)), (3, .int (nI k3)), (2, .int (nI k2)), (1, .int (nI k1)), (0, .ref o)]) hx hb dX4_join_85 hl (by decide) rfl (fun ls hl => ?_)
              refine lv_aload hx hb dX4_join_87 (lv_at hl 2 rfl) ?_
              refine lv_iload hx hb dX4_join_89 (lv_at hl 1 rfl) ?_
              refine lv_iload hx hb dX4_join_91 (lv_at hl 0 rfl) ?_
              refine lv_iconst (v := nI 3) hx hb dX4_join_93 (by decide) ?_
              refine lv_icmp_ne (tgt := 111) hx hb dX4_join_94 (by decide) (fun c94 => ?_) (fun c94 => ?_)
              · skip
                have c94 : ¬ (1 = 3) := fun q9 => c94 ((nc_eq (a := 1) (b := 3) (by omega) (by omega)).mpr q9)
                refine lv_iload hx hb dX4_join_111 (lv_at hl 0 rfl) ?_
                refine lv_iconst (v := nI 1) hx hb dX4_join_113 (by decide) ?_
                refine lv_icmp_ne (tgt := 131) hx hb dX4_join_114 (by decide) (fun c114 => ?_) (fun c114 => ?_)
                · skip
                  have c114 : ¬ (1 = 1) := fun q9 => c114 ((nc_eq (a := 1) (b := 1) (by omega) (by omega)).mpr q9)
                  omega
                · skip
                  have c114 : 1 = 1 := (nc_eq (a := 1) (b := 1) (by omega) (by omega)).mp c114
                  refine lv_iload hx hb dX4_join_117 (lv_at hl 3 rfl) ?_
                  refine lv_iconst (v := nI 1) hx hb dX4_join_119 (by decide) ?_
                  refine lv_icmp_eq (tgt := 127) hx hb dX4_join_120 (by decide) (fun c120 => ?_) (fun c120 => ?_)
                  · skip
                    have c120 : k4 = 1 := (nc_eq (a := k4) (b := 1) (by omega) (by omega)).mp c120
                    refine lv_iconst (v := nI 0) hx hb dX4_join_127 (by decide) ?_
                    refine lv_goto (tgt := 149) hx hb dX4_join_128 (by decide) ?_
                    refine q_zast hx hb hK nb1 i (rfl) (by omega) (by decide) (rfl) hS (hA _ (by omega)) dX4_join_149 (fun H1 locs1 hw9 hz oq hS => ?_)
                    have nb1 := hw9
                    replace hwk := fun (z : Nat) (hz : z < Hw.size) => (oq z (by omega)).trans (hwk z hz)
                    refine lv_iinc (v := nI (i + 1)) (lv' := [(6, .int (nI (i + 1))), (7, .int (nI 1)), (5, .ref b1), (4, .int (nI k4)), (3, .int (nI k3)), (2, .int (nI k2)), (1, .int (nI k1)), (0, .ref o)]) hx hb dX4_join_150 hl (k := 1) rfl (inc_1 _) (by decide) rfl (fun ls hl => ?_)
                    refine lv_goto (tgt := 38) hx hb dX4_join_153 (by decide) ?_
                    have e6 : (eN (T 0) 201 (upd (rowP (fun g => jvI (pB (F k2) g) (pB (F k3) g) k4) i) i (nI 0))) = (eN (T 0) 201 (rowP (fun g => jvI (pB (F k2) g) (pB (F k3) g) k4) (i + 1))) := by (rw [rowP_u (by show _ = jvI (pB (F k2) i) (pB (F k3) i) k4; rw [hj1, hj2]; unfold jvI; first | (simp only [if_true, if_false, Bool.false_eq_true, eq_self]; done) | (simp only [if_true, if_false, Bool.false_eq_true, eq_self]; split <;> first | rfl | omega))])
                    exact hnext _ _ _ ⟨hS, lv_sub hl [0, 2, 3, 4, 5, 6, 7] rfl, (by rw [← e6]; exact nb1), (by exact hwk)⟩
                  · skip
                    have c120 : ¬ (k4 = 1) := fun q9 => c120 ((nc_eq (a := k4) (b := 1) (by omega) (by omega)).mpr q9)
                    refine lv_iconst (v := nI 1) hx hb dX4_join_123 (by decide) ?_
                    refine lv_goto (tgt := 149) hx hb dX4_join_124 (by decide) ?_
                    refine q_zast hx hb hK nb1 i (rfl) (by omega) (by decide) (rfl) hS (hA _ (by omega)) dX4_join_149 (fun H1 locs1 hw9 hz oq hS => ?_)
                    have nb1 := hw9
                    replace hwk := fun (z : Nat) (hz : z < Hw.size) => (oq z (by omega)).trans (hwk z hz)
                    refine lv_iinc (v := nI (i + 1)) (lv' := [(6, .int (nI (i + 1))), (7, .int (nI 1)), (5, .ref b1), (4, .int (nI k4)), (3, .int (nI k3)), (2, .int (nI k2)), (1, .int (nI k1)), (0, .ref o)]) hx hb dX4_join_150 hl (k := 1) rfl (inc_1 _) (by decide) rfl (fun ls hl => ?_)
                    refine lv_goto (tgt := 38) hx hb dX4_join_153 (by decide) ?_
                    have e7 : (eN (T 0) 201 (upd (rowP (fun g => jvI (pB (F k2) g) (pB (F k3) g) k4) i) i (nI 1))) = (eN (T 0) 201 (rowP (fun g => jvI (pB (F k2) g) (pB (F k3) g) k4) (i + 1))) := by (rw [rowP_u (by show _ = jvI (pB (F k2) i) (pB (F k3) i) k4; rw [hj1, hj2]; unfold jvI; first | (simp only [if_true, if_false, Bool.false_eq_true, eq_self]; done) | (simp only [if_true, if_false, Bool.false_eq_true, eq_self]; split <;> first | rfl | omega))])
                    exact hnext _ _ _ ⟨hS, lv_sub hl [0, 2, 3, 4, 5, 6, 7] rfl, (by rw [← e7]; exact nb1), (by exact hwk)⟩
              · skip
                have c94 : 1 = 3 := (nc_eq (a := 1) (b := 3) (by omega) (by omega)).mp c94
                omega
            · skip
              have c76 : ¬ (0 = 0) := fun q9 => c76 ((nc_eq (a := 0) (b := 0) (by omega) (by omega)).mpr q9)
              omega
      · skip
        replace hj1 := nin_pB hR1 (by omega) hj1
        refine W.eq (g2 := F0 m 57 ls [.int (nI 0)]) rfl ?_
        refine lv_if_eq (tgt := 64) hx hb dX4_join_57 (by decide) (fun c57 => ?_) (fun c57 => ?_)
        · skip
          have c57 : 0 = 0 := (nc_eq (a := 0) (b := 0) (by omega) (by omega)).mp c57
          refine lv_iconst (v := nI 0) hx hb dX4_join_64 (by decide) ?_
          refine lv_aload_n hx hb dX4_join_65 rfl (lv_at hl 6 rfl) ?_
          refine q_get (v := .ref (o + 38)) hx hb hts hin4 hown hK (hw.ob.kept (hwk _ hw.ob.lt)) rfl 3 (by decide) (hts (.fieldLink RX4 18 "PuddingstoneLineLaw$Stones" "sets" "[[[I") (by decide +kernel)) (fun _ h9 => h9) rfl dX4_join_66 ?_
          refine lv_iload_n hx hb dX4_join_69 rfl (lv_at hl 3 rfl) ?_
          refine q_aald hx hb hK 8 rfl rfl (hw.ss.kept (hwk _ hw.ss.lt)) k3 rfl (by omega) (by decide) (b := la k3) rfl dX4_join_70 ?_
          obtain ⟨hla2, hln2, ads2, hi2⟩ := hw.il k3 (by omega)
          have hR2 := hinv.2.1 k3 (by omega)
          refine lv_iload hx hb dX4_join_71 (lv_at hl 0 rfl) ?_
          refine vp_callSi (va_runS (As := [.ref (la k3), .int (nI i)]) (rest := [.int (nI 0)]) ⟨hx, hb, hml, hown, hts⟩ (conX4_isIn l D T (o + 53) (la k3) (fun k => ads2 k) ((L k3).1) ((L k3).2.1) ((L k3).2.2) (fun k hk => hR2.sp hk) hR2.1.le i (by omega)) (va_cwS 2 hts gX4_join_X4_isIn rfl rfl rfl (by decide +kernel) ⟨Nat.le_of_ble_eq_true rfl, Nat.le_of_ble_eq_true rfl⟩) (preS hK ((hi2.old hwk))) rfl rfl hl.1 rfl (lv_room (Nat.le_of_ble_eq_true rfl)) dX4_join_73 ⟨by show _ ≤ 404; omega, by show _ ≤ 21105; omega⟩).run (fun r8 hr8 => ?_)
          rcases hr8 with ⟨rfl, hj2⟩ | ⟨rfl, hj2⟩
          · skip
            replace hj2 := in_pB hR2 (by omega) hj2
            refine W.eq (g2 := F0 m 76 ls [.int (nI 1), .int (nI 0)]) rfl ?_
            refine lv_if_eq (tgt := 83) hx hb dX4_join_76 (by decide) (fun c76 => ?_) (fun c76 => ?_)
            · skip
              have c76 : 1 = 0 := (nc_eq (a := 1) (b := 0) (by omega) (by omega)).mp c76
              omega
            · skip
              have c76 : ¬ (1 = 0) := fun q9 => c76 ((nc_eq (a := 1) (b := 0) (by omega) (by omega)).mpr q9)
              refine lv_iconst (v := nI 2) hx hb dX4_join_79 (by decide) ?_
              refine lv_goto (tgt := 84) hx hb dX4_join_80 (by decide) ?_
              refine lv_iadd hx hb dX4_join_84 ?_
              rw [nI_add]
              refine lv_istore (lv' := [(7, .int (nI 2)), (6, .int (nI i)), (5, .ref b1), (4, .int (nI k4)), (3, .int (nI k3)), (2, .int (nI k2)), (1, .int (nI k1)), (0, .ref o)]) hx hb dX4_join_85 hl (by decide) rfl (fun ls hl => ?_)
              refine lv_aload hx hb dX4_join_87 (lv_at hl 2 rfl) ?_
              refine lv_iload hx hb dX4_join_89 (lv_at hl 1 rfl) ?_
              refine lv_iload hx hb dX4_join_91 (lv_at hl 0 rfl) ?_
              refine lv_iconst (v := nI 3) hx hb dX4_join_93 (by decide) ?_
              refine lv_icmp_ne (tgt := 111) hx hb dX4_join_94 (by decide) (fun c94 => ?_) (fun c94 => ?_)
              · skip
                have c94 : ¬ (2 = 3) := fun q9 => c94 ((nc_eq (a := 2) (b := 3) (by omega) (by omega)).mpr q9)
                refine lv_iload hx hb dX4_join_111 (lv_at hl 0 rfl) ?_
                refine lv_iconst (v := nI 1) hx hb dX4_join_113 (by decide) ?_
                refine lv_icmp_ne (tgt := 131) hx hb dX4_join_114 (by decide) (fun c114 => ?_) (fun c114 => ?_)
                · skip
                  have c114 : ¬ (2 = 1) := fun q9 => c114 ((nc_eq (a := 2) (b := 1) (by omega) (by omega)).mpr q9)
                  refine lv_iload hx hb dX4_join_131 (lv_at hl 0 rfl) ?_
                  refine lv_iconst (v := nI 2) hx hb dX4_join_133 (by decide) ?_
                  refine lv_icmp_ne (tgt := 148) hx hb dX4_join_134 (by decide) (fun c134 => ?_) (fun c134 => ?_)
                  · skip
                    have c134 : ¬ (2 = 2) := fun q9 => c134 ((nc_eq (a := 2) (b := 2) (by omega) (by omega)).mpr q9)
                    omega
                  · skip
                    have c134 : 2 = 2 := (nc_eq (a := 2) (b := 2) (by omega) (by omega)).mp c134
                    refine lv_iload hx hb dX4_join_137 (lv_at hl 3 rfl) ?_
                    refine lv_iconst (v := nI 3) hx hb dX4_join_139 (by decide) ?_
                    refine lv_irem hx hb dX4_join_140 (by decide) ?_
                    rw [pk_rem (a := k4) (d := 3) (by omega) (by omega) (by omega)]
                    refine lv_if_ne (tgt := 148) hx hb dX4_join_141 (by decide) (fun c141 => ?_) (fun c141 => ?_)
                    · skip
                      have c141 : ¬ (k4 % 3 = 0) := fun q9 => c141 ((nc_eq (a := k4 % 3) (b := 0) (by omega) (by omega)).mpr q9)
                      refine lv_iconst (v := nI 0) hx hb dX4_join_148 (by decide) ?_
                      refine q_zast hx hb hK nb1 i (rfl) (by omega) (by decide) (rfl) hS (hA _ (by omega)) dX4_join_149 (fun H1 locs1 hw9 hz oq hS => ?_)
                      have nb1 := hw9
                      replace hwk := fun (z : Nat) (hz : z < Hw.size) => (oq z (by omega)).trans (hwk z hz)
                      refine lv_iinc (v := nI (i + 1)) (lv' := [(6, .int (nI (i + 1))), (7, .int (nI 2)), (5, .ref b1), (4, .int (nI k4)), (3, .int (nI k3)), (2, .int (nI k2)), (1, .int (nI k1)), (0, .ref o)]) hx hb dX4_join_150 hl (k := 1) rfl (inc_1 _) (by decide) rfl (fun ls hl => ?_)
                      refine lv_goto (tgt := 38) hx hb dX4_join_153 (by decide) ?_
                      have e9 : (eN (T 0) 201 (upd (rowP (fun g => jvI (pB (F k2) g) (pB (F k3) g) k4) i) i (nI 0))) = (eN (T 0) 201 (rowP (fun g => jvI (pB (F k2) g) (pB (F k3) g) k4) (i + 1))) := by (rw [rowP_u (by show _ = jvI (pB (F k2) i) (pB (F k3) i) k4; rw [hj1, hj2]; unfold jvI; first | (simp only [if_true, if_false, Bool.false_eq_true, eq_self]; done) | (simp only [if_true, if_false, Bool.false_eq_true, eq_self]; split <;> first | rfl | omega))])
                      exact hnext _ _ _ ⟨hS, lv_sub hl [0, 2, 3, 4, 5, 6, 7] rfl, (by rw [← e9]; exact nb1), (by exact hwk)⟩
                    · skip
                      have c141 : k4 % 3 = 0 := (nc_eq (a := k4 % 3) (b := 0) (by omega) (by omega)).mp c141
                      refine lv_iconst (v := nI 1) hx hb dX4_join_144 (by decide) ?_
                      refine lv_goto (tgt := 149) hx hb dX4_join_145 (by decide) ?_
                      refine q_zast hx hb hK nb1 i (rfl) (by omega) (by decide) (rfl) hS (hA _ (by omega)) dX4_join_149 (fun H1 locs1 hw9 hz oq hS => ?_)
                      have nb1 := hw9
                      replace hwk := fun (z : Nat) (hz : z < Hw.size) => (oq z (by omega)).trans (hwk z hz)
                      refine lv_iinc (v := nI (i + 1)) (lv' := [(6, .int (nI (i + 1))), (7, .int (nI 2)), (5, .ref b1), (4, .int (nI k4)), (3, .int (nI k3)), (2, .int (nI k2)), (1, .int (nI k1)), (0, .ref o)]) hx hb dX4_join_150 hl (k := 1) rfl (inc_1 _) (by decide) rfl (fun ls hl => ?_)
                      refine lv_goto (tgt := 38) hx hb dX4_join_153 (by decide) ?_
                      have e10 : (eN (T 0) 201 (upd (rowP (fun g => jvI (pB (F k2) g) (pB (F k3) g) k4) i) i (nI 1))) = (eN (T 0) 201 (rowP (fun g => jvI (pB (F k2) g) (pB (F k3) g) k4) (i + 1))) := by (rw [rowP_u (by show _ = jvI (pB (F k2) i) (pB (F k3) i) k4; rw [hj1, hj2]; unfold jvI; first | (simp only [if_true, if_false, Bool.false_eq_true, eq_self]; done) | (simp only [if_true, if_false, Bool.false_eq_true, eq_self]; split <;> first | rfl | omega))])
                      exact hnext _ _ _ ⟨hS, lv_sub hl [0, 2, 3, 4, 5, 6, 7] rfl, (by rw [← e10]; exact nb1), (by exact hwk)⟩
                · skip
                  have c114 : 2 = 1 := (nc_eq (a := 2) (b := 1) (by omega) (by omega)).mp c114
                  omega
              · skip
                have c94 : 2 = 3 := (nc_eq (a := 2) (b := 3) (by omega) (by omega)).mp c94
                omega
          · skip
            replace hj2 := nin_pB hR2 (by omega) hj2
            refine W.eq (g2 := F0 m 76 ls [.int (nI 0), .int (nI 0)]) rfl ?_
            refine lv_if_eq (tgt := 83) hx hb dX4_join_76 (by decide) (fun c76 => ?_) (fun c76 => ?_)
            · skip
              have c76 : 0 = 0 := (nc_eq (a := 0) (b := 0) (by omega) (by omega)).mp c76
              refine lv_iconst (v := nI 0) hx hb dX4_join_83 (by decide) ?_
              refine lv_iadd hx hb dX4_join_84 ?_
              rw [nI_add]
              refine lv_istore (lv' := [(7, .int (nI 0)), (6, .int (nI i)), (5, .ref b1), (4, .int (nI k4)), (3, .int (nI k3)), (2, .int (nI k2)), (1, .int (nI k1)), (0, .ref o)]) hx hb dX4_join_85 hl (by decide) rfl (fun ls hl => ?_)
              refine lv_aload hx hb dX4_join_87 (lv_at hl 2 rfl) ?_
              refine lv_iload hx hb dX4_join_89 (lv_at hl 1 rfl) ?_
              refine lv_iload hx hb dX4_join_91 (lv_at hl 0 rfl) ?_
              refine lv_iconst (v := nI 3) hx hb dX4_join_93 (by decide) ?_
              refine lv_icmp_ne (tgt := 111) hx hb dX4_join_94 (by decide) (fun c94 => ?_) (fun c94 => ?_)
              · skip
                have c94 : ¬ (0 = 3) := fun q9 => c94 ((nc_eq (a := 0) (b := 3) (by omega) (by omega)).mpr q9)
                refine lv_iload hx hb dX4_join_111 (lv_at hl 0 rfl) ?_
                refine lv_iconst (v := nI 1) hx hb dX4_join_113 (by decide) ?_
                refine lv_icmp_ne (tgt := 131) hx hb dX4_join_114 (by decide) (fun c114 => ?_) (fun c114 => ?_)
                · skip
                  have c114 : ¬ (0 = 1) := fun q9 => c114 ((nc_eq (a := 0) (b := 1) (by omega) (by omega)).mpr q9)
                  refine lv_iload hx hb dX4_join_131 (lv_at hl 0 rfl) ?_
                  refine lv_iconst (v := nI 2) hx hb dX4_join_133 (by decide) ?_
                  refine lv_icmp_ne (tgt := 148) hx hb dX4_join_134 (by decide) (fun c134 => ?_) (fun c134 => ?_)
                  · skip
                    have c134 : ¬ (0 = 2) := fun q9 => c134 ((nc_eq (a := 0) (b := 2) (by omega) (by omega)).mpr q9)
                    refine lv_iconst (v := nI 0) hx hb dX4_join_148 (by decide) ?_
                    refine q_zast hx hb hK nb1 i (rfl) (by omega) (by decide) (rfl) hS (hA _ (by omega)) dX4_join_149 (fun H1 locs1 hw9 hz oq hS => ?_)
                    have nb1 := hw9
                    replace hwk := fun (z : Nat) (hz : z < Hw.size) => (oq z (by omega)).trans (hwk z hz)
                    refine lv_iinc (v := nI (i + 1)) (lv' := [(6, .int (nI (i + 1))), (7, .int (nI 0)), (5, .ref b1), (4, .int (nI k4)), (3, .int (nI k3)), (2, .int (nI k2)), (1, .int (nI k1)), (0, .ref o)]) hx hb dX4_join_150 hl (k := 1) rfl (inc_1 _) (by decide) rfl (fun ls hl => ?_)
                    refine lv_goto (tgt := 38) hx hb dX4_join_153 (by decide) ?_
                    have e11 : (eN (T 0) 201 (upd (rowP (fun g => jvI (pB (F k2) g) (pB (F k3) g) k4) i) i (nI 0))) = (eN (T 0) 201 (rowP (fun g => jvI (pB (F k2) g) (pB (F k3) g) k4) (i + 1))) := by (rw [rowP_u (by show _ = jvI (pB (F k2) i) (pB (F k3) i) k4; rw [hj1, hj2]; unfold jvI; first | (simp only [if_true, if_false, Bool.false_eq_true, eq_self]; done) | (simp only [if_true, if_false, Bool.false_eq_true, eq_self]; split <;> first | rfl | omega))])
                    exact hnext _ _ _ ⟨hS, lv_sub hl [0, 2, 3, 4, 5, 6, 7] rfl, (by rw [← e11]; exact nb1), (by exact hwk)⟩
                  · skip
                    have c134 : 0 = 2 := (nc_eq (a := 0) (b := 2) (by omega) (by omega)).mp c134
                    omega
                · skip
                  have c114 : 0 = 1 := (nc_eq (a := 0) (b := 1) (by omega) (by omega)).mp c114
                  omega
              · skip
                have c94 : 0 = 3 := (nc_eq (a := 0) (b := 3) (by omega) (by omega)).mp c94
                omega
            · skip
              have c76 : ¬ (0 = 0) := fun q9 => c76 ((nc_eq (a := 0) (b := 0) (by omega) (by omega)).mpr q9)
              omega
        · skip
          have c57 : ¬ (0 = 0) := fun q9 => c57 ((nc_eq (a := 0) (b := 0) (by omega) (by omega)).mpr q9)
          omega
  · skip
    intro H locs ls hin9
    obtain ⟨hS, hl, nb1, hwk⟩ := hin9
    refine lv_iload hx hb dX4_join_38 (lv_at hl 0 rfl) ?_
    refine lv_sipush (v := nI 200) hx hb dX4_join_40 (by decide) ?_
    refine lv_icmp_gt (tgt := 156) hx hb dX4_join_43 (by decide) (fun c43 => ?_) (fun c43 => ?_)
    · skip
      have c43 : 200 < 201 := (nc_lt (a := 200) (b := 201) (by omega) (by omega)).mp c43
      refine lv_aload_n hx hb dX4_join_156 rfl (lv_at hl 6 rfl) ?_
      refine q_get (v := .ref (o + 38)) hx hb hts hin4 hown hK (hw.ob.kept (hwk _ hw.ob.lt)) rfl 3 (by decide) (hts (.fieldLink RX4 18 "PuddingstoneLineLaw$Stones" "sets" "[[[I") (by decide +kernel)) (fun _ h9 => h9) rfl dX4_join_157 ?_
      refine lv_iload_n hx hb dX4_join_160 rfl (lv_at hl 5 rfl) ?_
      refine lv_aload hx hb dX4_join_161 (lv_at hl 1 rfl) ?_
      obtain ⟨b2, hb2⟩ : ∃ z : Nat, z = H.size := ⟨_, rfl⟩
      have lnb1_b2 : b1 < b2 := by have h8 := nb1.lt; omega
      have ln_b2 : s.heap.size ≤ b2 := by have h8 := hS.1; omega
      have lw_b2 : Hw.size ≤ b2 := by have h8 := kp_sz hwk; omega
      refine va_callr (va_runS (As := [.ref b1]) (rest := [.int (nI k1), .ref (o + 38)]) ⟨hx, hb, hml, hown, hts⟩ (conX4_spans l D T b2 b1 (rowP (fun g => jvI (pB (F k2) g) (pB (F k3) g) k4) 201)) (va_cwS 1 hts gX4_join_X4_spans rfl rfl rfl (by decide +kernel) ⟨Nat.le_of_ble_eq_true rfl, Nat.le_of_ble_eq_true rfl⟩) (preS hK ⟨hb2.symm, nb1⟩) rfl rfl hl.1 rfl (lv_room (Nat.le_of_ble_eq_true rfl)) dX4_join_163 ⟨by show _ ≤ 404; omega, by show _ ≤ 21105; omega⟩) hS (fun q _ h9 => (hA q (by have h8 : b2 ≤ q := h9; omega))) (fun q h9 => (hA q (by have h8 : b2 ≤ q := h9; omega))) (fun u ra t H1 locs1 ht hvm hw9 hB hz1 hk1 hS => ?_)
      try dsimp only at hB
      rw [ht] at hB
      obtain ⟨a12, rfl⟩ : ∃ z, z = ra := ⟨_, rfl⟩
      replace nb1 := nb1.kept (hk1 _ nb1.lt (fun h9 => by have h8 : b2 ≤ _ := h9; omega))
      obtain ⟨hra, adm, hil⟩ := hB
      have hrep := (spS_ok (pF (rowP (fun g => jvI (pB (F k2) g) (pB (F k3) g) k4) 201)) (Nat.le_refl 201)).1
      replace hwk := fun (z : Nat) (hz : z < Hw.size) => (hk1 z (by omega) (fun h9 => by have h8 : b2 ≤ z := h9; omega)).trans (hwk z hz)
      refine q_aastq hx hb hK (hw.ss.kept (hwk _ hw.ss.lt)) hil.1 k1 rfl (by omega) (by decide) hS (hA _ (by omega)) dX4_join_166 (fun H1 locs1 hw9 hz oq hS => ?_)
      replace hw := (hw.old hwk).setL (k := k1) (m := a12) (S := (spS (pF (rowP (fun g => jvI (pB (F k2) g) (pB (F k3) g) k4) 201)) 201)) (by omega) hrep.1.le ⟨_, hil.wk (by omega)⟩ hw9 oq
      replace nb1 := nb1.ne oq (by omega)
      replace hil := hil.up (m := o + 53) (by omega) (by omega) (fun z h8 h7 => oq z (by omega))
      refine lv_aload_n hx hb dX4_join_167 rfl (lv_at hl 6 rfl) ?_
      refine q_get (v := .ref (ad 0)) hx hb hts hin4 hown hK hw.ob rfl 0 (by decide) (hts (.fieldLink RX4 10 "PuddingstoneLineLaw$Stones" "m" "LPuddingstoneLine;") (by decide +kernel)) (fun _ h9 => h9) rfl dX4_join_168 ?_
      refine lv_iload_n hx hb dX4_join_171 rfl (lv_at hl 5 rfl) ?_
      refine lv_iload_n hx hb dX4_join_172 rfl (lv_at hl 4 rfl) ?_
      refine lv_iload_n hx hb dX4_join_173 rfl (lv_at hl 3 rfl) ?_
      refine lv_iload hx hb dX4_join_174 (lv_at hl 2 rfl) ?_
      refine va_calli (va_runV (As := [.int (nI k1), .int (nI k2), .int (nI k3), .int (nI k4)]) (rest := []) ⟨hx, hb, hml, hown, hts⟩ (conX3_join l D T ad F V sr C k1 k2 k3 k4 (by omega) (by omega) (by omega) (by omega)) (cwV 4 hts gX4_join_X3_join rfl rfl rfl (by decide +kernel) ⟨Nat.le_of_ble_eq_true rfl, Nat.le_of_ble_eq_true rfl⟩) (preV hK hw.pl.o rfl hw.pl) rfl rfl hl.1 rfl (lv_room (Nat.le_of_ble_eq_true rfl)) dX4_join_176 ⟨by show _ ≤ 404; omega, by show _ ≤ 21105; omega⟩) hS (fun q _ h9 => (by obtain ⟨i9, h8, rfl⟩ := h9; exact hA _ (by have := hw.1 i9 h8; omega))) (fun q h9 => (by obtain ⟨i9, h8, rfl⟩ := h9; exact hA _ (by have := hw.1 i9 h8; omega))) (fun r u t H1 locs1 ht hvm hw9 hB hz1 hk1 hS => ?_)
      try dsimp only at hB
      rw [ht] at hB
      rw [hw9]
      replace nb1 := nb1.kept (hk1 _ nb1.lt (fun ⟨i9, h8, h7⟩ => by have := hw.1 i9 h8; omega))
      replace hil := hil.up (m := o + 53) (by omega) (by omega) (fun z h8 h7 => hk1 z h7 (fun ⟨i9, h6, h5⟩ => by have := hw.1 i9 h6; omega))
      replace hw := hw.setP hB (fun q h1 h2 => hk1 q h1 h2)
      refine lv_aload_n hx hb dX4_join_179 rfl (lv_at hl 6 rfl) ?_
      refine q_get (v := .ref (o + 38)) hx hb hts hin4 hown hK hw.ob rfl 3 (by decide) (hts (.fieldLink RX4 18 "PuddingstoneLineLaw$Stones" "sets" "[[[I") (by decide +kernel)) (fun _ h9 => h9) rfl dX4_join_180 ?_
      refine lv_iload_n hx hb dX4_join_183 rfl (lv_at hl 5 rfl) ?_
      refine q_aald hx hb hK 8 rfl rfl hw.ss k1 rfl (by omega) (by decide) (b := a12) (congrArg some (va_up_s _ _ _)) dX4_join_184 ?_
      refine vp_callSi (va_runS (As := [.ref a12]) (rest := [.int (cntZ (jnZ F k1 k2 k3 k4 201) 201)]) ⟨hx, hb, hml, hown, hts⟩ (conX4_count l D T b2 a12 (fun k => adm k) ((spS (pF (rowP (fun g => jvI (pB (F k2) g) (pB (F k3) g) k4) 201)) 201).1) ((spS (pF (rowP (fun g => jvI (pB (F k2) g) (pB (F k3) g) k4) 201)) 201).2.1) ((spS (pF (rowP (fun g => jvI (pB (F k2) g) (pB (F k3) g) k4) 201)) 201).2.2) (fun k hk => hrep.sp hk) hrep.1.le) (va_cwS 1 hts gX4_join_X4_count rfl rfl rfl (by decide +kernel) ⟨Nat.le_of_ble_eq_true rfl, Nat.le_of_ble_eq_true rfl⟩) (preS hK hil) rfl rfl hl.1 rfl (lv_room (Nat.le_of_ble_eq_true rfl)) dX4_join_185 ⟨by show _ ≤ 404; omega, by show _ ≤ 21105; omega⟩).run (fun r13 hr13 => ?_)
      rw [hr13]
      have hrp := join_rep F k1 k2 k3 (k := k4) (by omega)
      have hans := ans_cnt hrp
      refine lv_icmp_ne (tgt := 195) hx hb dX4_join_188 (by decide) (fun c188 => ?_) (fun c188 => ?_)
      · skip
        exact absurd hans c188
      · skip
        refine lv_iconst (v := nI 1) hx hb dX4_join_191 (by decide) ?_
        refine lv_goto (tgt := 196) hx hb dX4_join_192 (by decide) ?_
        exact W.zret (v := nI 1) hx hb hr (rfl) (fun t ht _ => ⟨⟨nI 1, (), rfl, by rfl, by dsimp only; rw [ht]; exact ⟨_, _, _, _, _, _, _, _, _, by omega, (by have h8 := hS.1; omega), hw, hinv.put hinv.1 up_ne (by rw [va_up_s]; exact hrp)⟩⟩, hS.F ht⟩) hS.2.2 dX4_join_196
    · skip
      have c43 : ¬ (200 < 201) := fun q9 => c43 ((nc_lt (a := 200) (b := 201) (by omega) (by omega)).mpr q9)
      omega
