/-! STONES: STRETCH -/
theorem stF_e {tt a : Nat} (h : a % 2 = 0) : a * tt = stF tt a := (if_pos h).symm
theorem stF_o {tt a : Nat} (h : ¬ a % 2 = 0) : (a - 1) * tt + 1 = stF tt a := (if_neg h).symm
theorem stT_e {tt a : Nat} (h : a % 2 = 0) : a * tt = stT tt a := (if_pos h).symm
theorem stT_o {tt a : Nat} (h : ¬ a % 2 = 0) : (a + 1) * tt - 1 = stT tt a := (if_neg h).symm
theorem st_big2 {tt a b : Nat} (h1 : 2 ≤ tt) (h2 : tt ≤ 10) (ha : a ≤ 200) (hb : b ≤ 200) : stF tt a ≤ 2001 ∧ stT tt b ≤ 2009 ∧ 2 ≤ (b + 1) * tt := by
  unfold stF stT
  rcases tt_cases h1 h2 with rfl | rfl | rfl | rfl | rfl | rfl | rfl | rfl | rfl <;> split <;> split <;> omega
set_option maxHeartbeats 4000000 in
set_option maxRecDepth 100000 in
theorem conX4_stretch (l : Launch) (D : va_G) (T : Nat → ClassId) (ad : Nat → Nat) (o sc N : Nat) (sf : Nat → Int32) (d : Nat) (hN : N < 2 ^ 30) (hd : d + 20 < 2 ^ 30) : Met l yX4_stretch wsX4_stretch ({ frames := 4, cells := 203, slots := 10504, locals := 93 }) (cP D T [.ref o] (fun H => ST D T ad o sc N sf d H)) (va_Qi (fun (r : Int32) (_ : Unit) => r = nI 1) (fun _ t => ST D T ad o sc N sf (d + 10) t.heap) (fun z : Nat => o ≤ z)) 203 10504 (fun z : Nat => o ≤ z) := by
  refine Met.ofW (cc := cX4_stretch) (maxL := 11) (ret := (some .boolean)) (by decide) rfl ?_
  intro p e s m args below meth c s₁ B hml hv9
  obtain ⟨rfl, hK, ⟨dr, F, V, sr, C, L, U, la, vv, hdr, ho9, hw, hinv⟩⟩ := hv9
  have hx := B.exec
  have hb := B.bytes
  have hr := B.returns
  have hts := atoms_spec (ws := wsX4_stretch) B.pre
  have hown : s.vm.findClass RX4 = some m.cls := findClass_of_methodNamed B.named
  have hlocks := B.notSynchronized
  have hin4 : ∀ w ∈ wsX40, w ∈ wsX4_stretch := by decide +kernel
  generalize hAe : (fun z : Nat => o ≤ z) = A
  have hA : ∀ z : Nat, o ≤ z → A z := fun z h9 => by subst hAe; exact h9
  have hS : va_S A s.heap s.heap [] := va_S.rf
  have hl := lv_entry ([.ref o]) (n := 11) (Nat.le_of_ble_eq_true rfl)
  rw [lg_entry_eq]
  generalize (lg_sl ([.ref o]) ++ List.replicate (11 - (lg_sl ([.ref o])).length) Slot.unset).toArray = ls at hl ⊢
  have hl : lv_has ls 11 [(0, .ref o)] := hl
  have hA_o : A o := hA o (Nat.le_refl _)
  have hlt9 := hw.lt
  refine lv_aload_n hx hb dX4_stretch_0 rfl (lv_at hl 0 rfl) ?_
  refine lv_bipush (v := nI 8) hx hb dX4_stretch_1 (by decide) ?_
  refine va_calli (va_runV (As := [.int (nI 8)]) (rest := []) ⟨hx, hb, hml, hown, hts⟩ (conX4_draw l D T ad o sc N sf dr F V sr C L U la vv (by omega) (by omega) 8 (by omega) (by omega)) (cwV 1 hts gX4_stretch_X4_draw rfl rfl rfl (by decide +kernel) ⟨Nat.le_of_ble_eq_true rfl, Nat.le_of_ble_eq_true rfl⟩) (preV hK hw.ob rfl hw) rfl rfl hl.1 rfl (lv_room (Nat.le_of_ble_eq_true rfl)) dX4_stretch_3 ⟨Nat.le_of_ble_eq_true rfl, Nat.le_of_ble_eq_true rfl⟩) hS (fun q _ h9 => (by have h8 : q = o := h9; rw [h8]; exact hA_o)) (fun q h9 => (by have h8 : q = o := h9; rw [h8]; exact hA_o)) (fun r u t H1 locs1 ht hvm hw9 hB hz1 hk1 hS => ?_)
  try dsimp only at hB
  rw [ht] at hB
  obtain ⟨k1, hk1, rfl⟩ := hw9
  replace hw := hB
  refine lv_istore_n (lv' := [(1, .int (nI k1)), (0, .ref o)]) hx hb dX4_stretch_6 rfl hl (by decide) rfl (fun ls hl => ?_)
  refine lv_iconst (v := nI 2) hx hb dX4_stretch_7 (by decide) ?_
  refine lv_aload_n hx hb dX4_stretch_8 rfl (lv_at hl 1 rfl) ?_
  refine lv_aload_n hx hb dX4_stretch_9 rfl (lv_at hl 1 rfl) ?_
  refine lv_iconst (v := nI 3) hx hb dX4_stretch_10 (by decide) ?_
  refine va_calli (va_runV (As := [.int (nI 3)]) (rest := [.ref o, .int (nI 2)]) ⟨hx, hb, hml, hown, hts⟩ (conX4_draw l D T ad o sc N sf (dr + 1) F V sr C L U la vv (by omega) (by omega) 3 (by omega) (by omega)) (cwV 1 hts gX4_stretch_X4_draw rfl rfl rfl (by decide +kernel) ⟨Nat.le_of_ble_eq_true rfl, Nat.le_of_ble_eq_true rfl⟩) (preV hK hw.ob rfl hw) rfl rfl hl.1 rfl (lv_room (Nat.le_of_ble_eq_true rfl)) dX4_stretch_11 ⟨Nat.le_of_ble_eq_true rfl, Nat.le_of_ble_eq_true rfl⟩) hS (fun q _ h9 => (by have h8 : q = o := h9; rw [h8]; exact hA_o)) (fun q h9 => (by have h8 : q = o := h9; rw [h8]; exact hA_o)) (fun r u t H1 locs1 ht hvm hw9 hB hz1 hk1 hS => ?_)
  try dsimp only at hB
  rw [ht] at hB
  obtain ⟨k2, hk2, rfl⟩ := hw9
  replace hw := hB
  refine lv_if_ne (tgt := 22) hx hb dX4_stretch_14 (by decide) (fun c14 => ?_) (fun c14 => ?_)
  · skip
    have c14 : ¬ (k2 = 0) := fun q9 => c14 ((nc_eq (a := k2) (b := 0) (by omega) (by omega)).mpr q9)
    refine lv_iconst (v := nI 2) hx hb dX4_stretch_22 (by decide) ?_
    refine va_calli (va_runV (As := [.int (nI 2)]) (rest := [.int (nI 2)]) ⟨hx, hb, hml, hown, hts⟩ (conX4_draw l D T ad o sc N sf (dr + 1 + 1) F V sr C L U la vv (by omega) (by omega) 2 (by omega) (by omega)) (cwV 1 hts gX4_stretch_X4_draw rfl rfl rfl (by decide +kernel) ⟨Nat.le_of_ble_eq_true rfl, Nat.le_of_ble_eq_true rfl⟩) (preV hK hw.ob rfl hw) rfl rfl hl.1 rfl (lv_room (Nat.le_of_ble_eq_true rfl)) dX4_stretch_23 ⟨Nat.le_of_ble_eq_true rfl, Nat.le_of_ble_eq_true rfl⟩) hS (fun q _ h9 => (by have h8 : q = o := h9; rw [h8]; exact hA_o)) (fun q h9 => (by have h8 : q = o := h9; rw [h8]; exact hA_o)) (fun r u t H1 locs1 ht hvm hw9 hB hz1 hk1 hS => ?_)
    try dsimp only at hB
    rw [ht] at hB
    obtain ⟨k3, hk3, rfl⟩ := hw9
    replace hw := hB
    refine lv_iadd hx hb dX4_stretch_26 ?_
    rw [nI_add]
    refine lv_istore_n (lv' := [(2, .int (nI (2 + k3))), (1, .int (nI k1)), (0, .ref o)]) hx hb dX4_stretch_27 rfl hl (by decide) rfl (fun ls hl => ?_)
    refine lv_iconst (v := nI 0) hx hb dX4_stretch_28 (by decide) ?_
    obtain ⟨Hw, hHw⟩ : ∃ z : Heap, z = H1 := ⟨_, rfl⟩
    obtain ⟨b1, hb1⟩ : ∃ z : Nat, z = H1.size := ⟨_, rfl⟩
    have ln_b1 : s.heap.size ≤ b1 := by have h8 := hS.1; omega
    have lw_b1 : Hw.size ≤ b1 := by rw [hHw]; omega
    refine q_newqa hx hb hown (hts (.classLink RX4 44 "[I") (by decide +kernel)) hK 0 rfl (by omega) (by show _ ≤ 203; omega) (by show _ ≤ 10504; omega) hS dX4_stretch_29 (fun H1 hw9 z1 o1 hS => ?_)
    rw [← hb1] at hw9 ⊢
    have nb1 := hw9
    have sb1 : H1.size = b1 + 1 := by omega
    rw [← hHw] at hw
    have hwk : ∀ z : Nat, z < Hw.size → H1[z]? = Hw[z]? := by rw [hHw]; exact fun z hz => o1 z (by omega)
    have hil : ILA D T (o + 53) b1 (fun _ => 0) 0 (fun _ => 0) (fun _ => 0) H1 := ILA.nil nb1
    refine lv_astore_n (lv' := [(3, .ref b1), (2, .int (nI (2 + k3))), (1, .int (nI k1)), (0, .ref o)]) hx hb dX4_stretch_32 rfl hl (by decide) rfl (fun ls hl => ?_)
    refine lv_aload_n hx hb dX4_stretch_33 rfl (lv_at hl 3 rfl) ?_
    refine q_get (v := .ref (o + 38)) hx hb hts hin4 hown hK (hw.ob.kept (hwk _ hw.ob.lt)) rfl 3 (by decide) (hts (.fieldLink RX4 18 "PuddingstoneLineLaw$Stones" "sets" "[[[I") (by decide +kernel)) (fun _ h9 => h9) rfl dX4_stretch_34 ?_
    refine lv_iload_n hx hb dX4_stretch_37 rfl (lv_at hl 2 rfl) ?_
    refine q_aald hx hb hK 8 rfl rfl (hw.ss.kept (hwk _ hw.ss.lt)) k1 rfl (by omega) (by decide) (b := la k1) rfl dX4_stretch_38 ?_
    obtain ⟨hla1, hln1, ads1, hi1⟩ := hw.il k1 (by omega)
    have hR1 := hinv.2.1 k1 (by omega)
    refine lv_astore (lv' := [(4, .ref (la k1)), (3, .ref b1), (2, .int (nI (2 + k3))), (1, .int (nI k1)), (0, .ref o)]) hx hb dX4_stretch_39 hl (by decide) rfl (fun ls hl => ?_)
    refine lv_aload hx hb dX4_stretch_41 (lv_at hl 0 rfl) ?_
    refine q_len hx hb hK 5 rfl (hi1.old hwk).1 dX4_stretch_43 ?_
    refine lv_istore (lv' := [(5, .int (nI ((L k1).1))), (4, .ref (la k1)), (3, .ref b1), (2, .int (nI (2 + k3))), (1, .int (nI k1)), (0, .ref o)]) hx hb dX4_stretch_44 hl (by decide) rfl (fun ls hl => ?_)
    refine lv_iconst (v := nI 0) hx hb dX4_stretch_46 (by decide) ?_
    refine lv_istore (lv' := [(6, .int (nI 0)), (5, .int (nI ((L k1).1))), (4, .ref (la k1)), (3, .ref b1), (2, .int (nI (2 + k3))), (1, .int (nI k1)), (0, .ref o)]) hx hb dX4_stretch_47 hl (by decide) rfl (fun ls hl => ?_)
    refine q_forg (fun (i : Nat) (H : Heap) (locs : List Loc) (ls : Array Slot) => ∃ mk : Nat, ∃ adm : Nat → Nat, ∃ S : SL, va_S A s.heap H locs ∧ lv_has ls 11 [(6, .int (nI i)), (5, .int (nI ((L k1).1))), (4, .ref (la k1)), (3, .ref mk), (2, .int (nI (2 + k3))), (1, .int (nI k1)), (0, .ref o)] ∧ o + 53 ≤ mk ∧ ILA D T (o + 53) mk adm S.1 S.2.1 S.2.2 H ∧ Rep (stB (pB (F k1)) (2 + k3)) (sfN (L k1) (2 + k3) i) S ∧ ∀ z : Nat, z < Hw.size → H[z]? = Hw[z]?) ((L k1).1) 2 104 ?_ ?_ ?_
    · skip
      exact ⟨b1, fun _ => 0, (0, fun _ => 0, fun _ => 0), hS, lv_sub hl [0, 1, 2, 3, 4, 5, 6] rfl, (by omega), (by exact hil), (by rw [sfN_0]; exact Rep.nil _ _ _), (by exact hwk)⟩
    · skip
      intro i H locs ls hi9 hin9 hnext
      obtain ⟨mk, adm, S, hS, hl, hmk, hil, hrep, hwk⟩ := hin9
      have hle9 := hrep.1.le
      refine lv_iload hx hb dX4_stretch_49 (lv_at hl 0 rfl) ?_
      refine lv_iload hx hb dX4_stretch_51 (lv_at hl 1 rfl) ?_
      refine lv_icmp_ge (tgt := 165) hx hb dX4_stretch_53 (by decide) (fun c53 => ?_) (fun c53 => ?_)
      · skip
        have c53 : (L k1).1 ≤ i := (nc_le (a := (L k1).1) (b := i) (by omega) (by omega)).mp c53
        omega
      · skip
        have c53 : ¬ ((L k1).1 ≤ i) := fun q9 => c53 ((nc_le (a := (L k1).1) (b := i) (by omega) (by omega)).mpr q9)
        have hsp9 := hR1.sp (show i < (L k1).1 by omega)
        have hbg9 := st_big2 (tt := 2 + k3) (a := (L k1).2.1 i) (b := (L k1).2.2 i) (by omega) (by omega) (by omega) (by omega)
        refine lv_aload hx hb dX4_stretch_56 (lv_at hl 2 rfl) ?_
        refine lv_iload hx hb dX4_stretch_58 (lv_at hl 0 rfl) ?_
        refine q_aald hx hb hK 5 rfl rfl (hi1.old hwk).1 i rfl (by omega) (by omega) (b := ads1 i) rfl dX4_stretch_60 ?_
        refine lv_astore (lv' := [(7, .ref (ads1 i)), (6, .int (nI i)), (5, .int (nI ((L k1).1))), (4, .ref (la k1)), (3, .ref mk), (2, .int (nI (2 + k3))), (1, .int (nI k1)), (0, .ref o)]) hx hb dX4_stretch_61 hl (by decide) rfl (fun ls hl => ?_)
        refine lv_aload hx hb dX4_stretch_63 (lv_at hl 0 rfl) ?_
        refine lv_iconst (v := nI 0) hx hb dX4_stretch_65 (by decide) ?_
        refine q_iald hx hb hK ((hi1.old hwk).2 i (by omega)).2 0 (rfl) (by omega) (by decide) dX4_stretch_66 ?_
        refine W.eq (g2 := F0 m 67 ls [.int (nI ((L k1).2.1 i))]) rfl ?_
        refine lv_iconst (v := nI 2) hx hb dX4_stretch_67 (by decide) ?_
        refine lv_irem hx hb dX4_stretch_68 (by decide) ?_
        rw [pk_rem (a := (L k1).2.1 i) (d := 2) (by omega) (by omega) (by omega)]
        refine lv_if_ne (tgt := 81) hx hb dX4_stretch_69 (by decide) (fun c69 => ?_) (fun c69 => ?_)
        · skip
          have c69 : ¬ (((L k1).2.1 i) % 2 = 0) := fun q9 => c69 ((nc_eq (a := ((L k1).2.1 i) % 2) (b := 0) (by omega) (by omega)).mpr q9)
          refine lv_aload hx hb dX4_stretch_81 (lv_at hl 0 rfl) ?_
          refine lv_iconst (v := nI 0) hx hb dX4_stretch_83 (by decide) ?_
          refine q_iald hx hb hK ((hi1.old hwk).2 i (by omega)).2 0 (rfl) (by omega) (by decide) dX4_stretch_84 ?_
          refine W.eq (g2 := F0 m 85 ls [.int (nI ((L k1).2.1 i))]) rfl ?_
          refine lv_iconst (v := nI 1) hx hb dX4_stretch_85 (by decide) ?_
          refine lv_isub hx hb dX4_stretch_86 ?_
          rw [pk_sub (a := (L k1).2.1 i) (b := 1) (by omega)]
          refine lv_iload_n hx hb dX4_stretch_87 rfl (lv_at hl 5 rfl) ?_
          refine lv_imul hx hb dX4_stretch_88 ?_
          rw [pk_mul]
          refine lv_iconst (v := nI 1) hx hb dX4_stretch_89 (by decide) ?_
          refine lv_iadd hx hb dX4_stretch_90 ?_
          rw [nI_add]
          refine W.eq (congrArg (fun z9 => F0 m 91 ls [.int (nI z9)]) (stF_o (tt := 2 + k3) c69)) ?_
          refine lv_istore (lv' := [(8, .int (nI (stF (2 + k3) ((L k1).2.1 i)))), (7, .ref (ads1 i)), (6, .int (nI i)), (5, .int (nI ((L k1).1))), (4, .ref (la k1)), (3, .ref mk), (2, .int (nI (2 + k3))), (1, .int (nI k1)), (0, .ref o)]) hx hb dX4_stretch_91 hl (by decide) rfl (fun ls hl => ?_)
          refine lv_aload hx hb dX4_stretch_93 (lv_at hl 1 rfl) ?_
          refine lv_iconst (v := nI 1) hx hb dX4_stretch_95 (by decide) ?_
          refine q_iald hx hb hK ((hi1.old hwk).2 i (by omega)).2 1 (rfl) (by omega) (by decide) dX4_stretch_96 ?_
          refine W.eq (g2 := F0 m 97 ls [.int (nI ((L k1).2.2 i))]) rfl ?_
          refine lv_iconst (v := nI 2) hx hb dX4_stretch_97 (by decide) ?_
          refine lv_irem hx hb dX4_stretch_98 (by decide) ?_
          rw [pk_rem (a := (L k1).2.2 i) (d := 2) (by omega) (by omega) (by omega)]
          refine lv_if_ne (tgt := 111) hx hb dX4_stretch_99 (by decide) (fun c99 => ?_) (fun c99 => ?_)
          · skip
            have c99 : ¬ (((L k1).2.2 i) % 2 = 0) := fun q9 => c99 ((nc_eq (a := ((L k1).2.2 i) % 2) (b := 0) (by omega) (by omega)).mpr q9)
            refine lv_aload hx hb dX4_stretch_111 (lv_at hl 1 rfl) ?_
            refine lv_iconst (v := nI 1) hx hb dX4_stretch_113 (by decide) ?_
            refine q_iald hx hb hK ((hi1.old hwk).2 i (by omega)).2 1 (rfl) (by omega) (by decide) dX4_stretch_114 ?_
            refine W.eq (g2 := F0 m 115 ls [.int (nI ((L k1).2.2 i))]) rfl ?_
            refine lv_iconst (v := nI 1) hx hb dX4_stretch_115 (by decide) ?_
            refine lv_iadd hx hb dX4_stretch_116 ?_
            rw [nI_add]
            refine lv_iload_n hx hb dX4_stretch_117 rfl (lv_at hl 6 rfl) ?_
            refine lv_imul hx hb dX4_stretch_118 ?_
            rw [pk_mul]
            refine lv_iconst (v := nI 1) hx hb dX4_stretch_119 (by decide) ?_
            refine lv_isub hx hb dX4_stretch_120 ?_
            rw [pk_sub (a := (((L k1).2.2 i) + 1) * (2 + k3)) (b := 1) (by omega)]
            refine W.eq (congrArg (fun z9 => F0 m 121 ls [.int (nI z9)]) (stT_o (tt := 2 + k3) c99)) ?_
            refine lv_istore (lv' := [(9, .int (nI (stT (2 + k3) ((L k1).2.2 i)))), (8, .int (nI (stF (2 + k3) ((L k1).2.1 i)))), (7, .ref (ads1 i)), (6, .int (nI i)), (5, .int (nI ((L k1).1))), (4, .ref (la k1)), (3, .ref mk), (2, .int (nI (2 + k3))), (1, .int (nI k1)), (0, .ref o)]) hx hb dX4_stretch_121 hl (by decide) rfl (fun ls hl => ?_)
            refine lv_iconst (v := nI 2) hx hb dX4_stretch_123 (by decide) ?_
            have hlw9 := hil.low
            obtain ⟨b2, hb2⟩ : ∃ z : Nat, z = H.size := ⟨_, rfl⟩
            have ln_b2 : s.heap.size ≤ b2 := by have h8 := hS.1; omega
            have lw_b2 : Hw.size ≤ b2 := by have h8 := kp_sz hwk; omega
            refine q_newi hx hb (hts (.arrayClass .int) (by decide +kernel)) hK 2 rfl (by decide) (by show _ ≤ 203; omega) (by show _ ≤ 10504; omega) hS dX4_stretch_124 (fun H1 hw9 z1 o1 hS => ?_)
            rw [← hb2] at hw9 ⊢
            have nb2 := hw9
            have sb2 : H1.size = b2 + 1 := by omega
            replace hwk := fun (z : Nat) (hz : z < Hw.size) => (o1 z (by omega)).trans (hwk z hz)
            replace hil := hil.old o1
            refine lv_dup hx hb dX4_stretch_126 rfl ?_
            refine lv_iconst (v := nI 0) hx hb dX4_stretch_127 (by decide) ?_
            refine lv_iload hx hb dX4_stretch_128 (lv_at hl 1 rfl) ?_
            refine q_iast hx hb hK nb2 0 (rfl) (by omega) (by decide) hS (hA _ (by omega)) dX4_stretch_130 (fun H1 locs1 hw9 hz oq hS => ?_)
            have nb2 := hw9
            replace hwk := fun (z : Nat) (hz : z < Hw.size) => (oq z (by omega)).trans (hwk z hz)
            replace hil := hil.ne hlw9 (by omega) oq
            refine lv_dup hx hb dX4_stretch_131 rfl ?_
            refine lv_iconst (v := nI 1) hx hb dX4_stretch_132 (by decide) ?_
            refine lv_sipush (v := nI 200) hx hb dX4_stretch_133 (by decide) ?_
            refine lv_iload hx hb dX4_stretch_136 (lv_at hl 0 rfl) ?_
            refine va_mmin hx hb (hml.trans hl.1.symm) hown (hts (.methodLink RX4 66 Lib.Math.min.name) (by decide +kernel)) (hts (.static Lib.Math.min.name) (by decide +kernel)) (hts (.initialized "java/lang/Math") (by decide +kernel)) (hts (.code Lib.Math.min.name Lib.Math.min.code 2 (some .int)) (by decide +kernel)) (Nat.le_of_ble_eq_true rfl) (Nat.le_of_ble_eq_true rfl) (by show _ ≤ 203; omega) (by show _ ≤ 10504; omega) dX4_stretch_138 ?_
            refine W.eq (g2 := F0 m 141 ls [.int (jmin (nI 200) (nI (stT (2 + k3) ((L k1).2.2 i)))), .int (nI 1), .ref b2, .ref b2]) rfl ?_
            rw [jmin_nat (a := 200) (b := stT (2 + k3) ((L k1).2.2 i)) (by omega) (by omega)]
            refine q_iast hx hb hK nb2 1 (rfl) (by omega) (by decide) hS (hA _ (by omega)) dX4_stretch_141 (fun H1 locs1 hw9 hz oq hS => ?_)
            have nb2 := hw9
            replace hwk := fun (z : Nat) (hz : z < Hw.size) => (oq z (by omega)).trans (hwk z hz)
            replace hil := hil.ne hlw9 (by omega) oq
            refine lv_astore (lv' := [(10, .ref b2), (9, .int (nI (stT (2 + k3) ((L k1).2.2 i)))), (8, .int (nI (stF (2 + k3) ((L k1).2.1 i)))), (7, .ref (ads1 i)), (6, .int (nI i)), (5, .int (nI ((L k1).1))), (4, .ref (la k1)), (3, .ref mk), (2, .int (nI (2 + k3))), (1, .int (nI k1)), (0, .ref o)]) hx hb dX4_stretch_142 hl (by decide) rfl (fun ls hl => ?_)
            refine lv_iload hx hb dX4_stretch_144 (lv_at hl 2 rfl) ?_
            refine lv_sipush (v := nI 200) hx hb dX4_stretch_146 (by decide) ?_
            refine lv_icmp_gt (tgt := 159) hx hb dX4_stretch_149 (by decide) (fun c149 => ?_) (fun c149 => ?_)
            · skip
              have c149 : 200 < stF (2 + k3) ((L k1).2.1 i) := (nc_lt (a := 200) (b := stF (2 + k3) ((L k1).2.1 i)) (by omega) (by omega)).mp c149
              refine lv_iinc (v := nI (i + 1)) (lv' := [(6, .int (nI (i + 1))), (10, .ref b2), (9, .int (nI (stT (2 + k3) ((L k1).2.2 i)))), (8, .int (nI (stF (2 + k3) ((L k1).2.1 i)))), (7, .ref (ads1 i)), (5, .int (nI ((L k1).1))), (4, .ref (la k1)), (3, .ref mk), (2, .int (nI (2 + k3))), (1, .int (nI k1)), (0, .ref o)]) hx hb dX4_stretch_159 hl (k := 4) rfl (inc_1 _) (by decide) rfl (fun ls hl => ?_)
              refine lv_goto (tgt := 49) hx hb dX4_stretch_162 (by decide) ?_
              exact W.widen (by omega) (by omega) (hnext _ _ _ ⟨mk, adm, S, hS, lv_sub hl [0, 5, 6, 7, 8, 9, 10] rfl, (by omega), (by exact hil), (by first | exact st_y hR1 (by omega) (by omega) (by omega) hrep (by omega) | exact st_n hR1 (by omega) (by omega) (by omega) hrep (by omega)), (by exact hwk)⟩)
            · skip
              have c149 : ¬ (200 < stF (2 + k3) ((L k1).2.1 i)) := fun q9 => c149 ((nc_lt (a := 200) (b := stF (2 + k3) ((L k1).2.1 i)) (by omega) (by omega)).mpr q9)
              refine lv_aload_n hx hb dX4_stretch_152 rfl (lv_at hl 7 rfl) ?_
              refine lv_aload hx hb dX4_stretch_153 (lv_at hl 0 rfl) ?_
              obtain ⟨b3, hb3⟩ : ∃ z : Nat, z = H1.size := ⟨_, rfl⟩
              have lnb2_b3 : b2 < b3 := by have h8 := nb2.lt; omega
              have ln_b3 : s.heap.size ≤ b3 := by have h8 := hS.1; omega
              have lw_b3 : Hw.size ≤ b3 := by have h8 := kp_sz hwk; omega
              refine va_callr (va_runS (As := [.ref mk, .ref b2]) (rest := []) ⟨hx, hb, hml, hown, hts⟩ (conX4_with l D T b3 (o + 53) mk b2 (stF (2 + k3) ((L k1).2.1 i)) (min 200 (stT (2 + k3) ((L k1).2.2 i))) (fun k => adm k) S.1 S.2.1 S.2.2 (by omega) (by omega)) (va_cwS 2 hts gX4_stretch_X4_with rfl rfl rfl (by decide +kernel) ⟨Nat.le_of_ble_eq_true rfl, Nat.le_of_ble_eq_true rfl⟩) (preS hK ⟨hb3.symm, hil, nb2.outN (pr2_u _ _)⟩) rfl rfl hl.1 rfl (lv_room (Nat.le_of_ble_eq_true rfl)) dX4_stretch_155 ⟨by show _ ≤ 203; omega, by show _ ≤ 10504; omega⟩) hS (fun q _ h9 => (hA q (by have h8 : b3 ≤ q := h9; omega))) (fun q h9 => (hA q (by have h8 : b3 ≤ q := h9; omega))) (fun u ra t H1 locs1 ht hvm hw9 hB hz1 hk1 hS => ?_)
              try dsimp only at hB
              rw [ht] at hB
              obtain ⟨a1, rfl⟩ : ∃ z, z = ra := ⟨_, rfl⟩
              obtain ⟨hra, hz9, hil⟩ := hB
              subst hra
              replace hwk := fun (z : Nat) (hz : z < Hw.size) => (hk1 z (by omega) (fun h9 => by have h8 : a1 ≤ z := h9; omega)).trans (hwk z hz)
              refine lv_astore_n (lv' := [(3, .ref a1), (10, .ref b2), (9, .int (nI (stT (2 + k3) ((L k1).2.2 i)))), (8, .int (nI (stF (2 + k3) ((L k1).2.1 i)))), (7, .ref (ads1 i)), (6, .int (nI i)), (5, .int (nI ((L k1).1))), (4, .ref (la k1)), (2, .int (nI (2 + k3))), (1, .int (nI k1)), (0, .ref o)]) hx hb dX4_stretch_158 rfl hl (by decide) rfl (fun ls hl => ?_)
              refine lv_iinc (v := nI (i + 1)) (lv' := [(6, .int (nI (i + 1))), (3, .ref a1), (10, .ref b2), (9, .int (nI (stT (2 + k3) ((L k1).2.2 i)))), (8, .int (nI (stF (2 + k3) ((L k1).2.1 i)))), (7, .ref (ads1 i)), (5, .int (nI ((L k1).1))), (4, .ref (la k1)), (2, .int (nI (2 + k3))), (1, .int (nI k1)), (0, .ref o)]) hx hb dX4_stretch_159 hl (k := 5) rfl (inc_1 _) (by decide) rfl (fun ls hl => ?_)
              refine lv_goto (tgt := 49) hx hb dX4_stretch_162 (by decide) ?_
              exact W.widen (by omega) (by omega) (hnext _ _ _ ⟨a1, fun k => if k = S.1 then b2 else adm k, snocS S (stF (2 + k3) ((L k1).2.1 i)) (min 200 (stT (2 + k3) ((L k1).2.2 i))), hS, lv_sub hl [0, 6, 7, 1, 8, 9, 10] rfl, (by omega), (by exact hil), (by first | exact st_y hR1 (by omega) (by omega) (by omega) hrep (by omega) | exact st_n hR1 (by omega) (by omega) (by omega) hrep (by omega)), (by exact hwk)⟩)
          · skip
            have c99 : ((L k1).2.2 i) % 2 = 0 := (nc_eq (a := ((L k1).2.2 i) % 2) (b := 0) (by omega) (by omega)).mp c99
            refine lv_aload hx hb dX4_stretch_102 (lv_at hl 1 rfl) ?_
            refine lv_iconst (v := nI 1) hx hb dX4_stretch_104 (by decide) ?_
            refine q_iald hx hb hK ((hi1.old hwk).2 i (by omega)).2 1 (rfl) (by omega) (by decide) dX4_stretch_105 ?_
            refine W.eq (g2 := F0 m 106 ls [.int (nI ((L k1).2.2 i))]) rfl ?_
            refine lv_iload_n hx hb dX4_stretch_106 rfl (lv_at hl 6 rfl) ?_
            refine lv_imul hx hb dX4_stretch_107 ?_
            rw [pk_mul]
            refine lv_goto (tgt := 121) hx hb dX4_stretch_108 (by decide) ?_
            refine W.eq (congrArg (fun z9 => F0 m 121 ls [.int (nI z9)]) (stT_e (tt := 2 + k3) c99)) ?_
            refine lv_istore (lv' := [(9, .int (nI (stT (2 + k3) ((L k1).2.2 i)))), (8, .int (nI (stF (2 + k3) ((L k1).2.1 i)))), (7, .ref (ads1 i)), (6, .int (nI i)), (5, .int (nI ((L k1).1))), (4, .ref (la k1)), (3, .ref mk), (2, .int (nI (2 + k3))), (1, .int (nI k1)), (0, .ref o)]) hx hb dX4_stretch_121 hl (by decide) rfl (fun ls hl => ?_)
            refine lv_iconst (v := nI 2) hx hb dX4_stretch_123 (by decide) ?_
            have hlw9 := hil.low
            obtain ⟨b2, hb2⟩ : ∃ z : Nat, z = H.size := ⟨_, rfl⟩
            have ln_b2 : s.heap.size ≤ b2 := by have h8 := hS.1; omega
            have lw_b2 : Hw.size ≤ b2 := by have h8 := kp_sz hwk; omega
            refine q_newi hx hb (hts (.arrayClass .int) (by decide +kernel)) hK 2 rfl (by decide) (by show _ ≤ 203; omega) (by show _ ≤ 10504; omega) hS dX4_stretch_124 (fun H1 hw9 z1 o1 hS => ?_)
            rw [← hb2] at hw9 ⊢
            have nb2 := hw9
            have sb2 : H1.size = b2 + 1 := by omega
            replace hwk := fun (z : Nat) (hz : z < Hw.size) => (o1 z (by omega)).trans (hwk z hz)
            replace hil := hil.old o1
            refine lv_dup hx hb dX4_stretch_126 rfl ?_
            refine lv_iconst (v := nI 0) hx hb dX4_stretch_127 (by decide) ?_
            refine lv_iload hx hb dX4_stretch_128 (lv_at hl 1 rfl) ?_
            refine q_iast hx hb hK nb2 0 (rfl) (by omega) (by decide) hS (hA _ (by omega)) dX4_stretch_130 (fun H1 locs1 hw9 hz oq hS => ?_)
            have nb2 := hw9
            replace hwk := fun (z : Nat) (hz : z < Hw.size) => (oq z (by omega)).trans (hwk z hz)
            replace hil := hil.ne hlw9 (by omega) oq
            refine lv_dup hx hb dX4_stretch_131 rfl ?_
            refine lv_iconst (v := nI 1) hx hb dX4_stretch_132 (by decide) ?_
            refine lv_sipush (v := nI 200) hx hb dX4_stretch_133 (by decide) ?_
            refine lv_iload hx hb dX4_stretch_136 (lv_at hl 0 rfl) ?_
            refine va_mmin hx hb (hml.trans hl.1.symm) hown (hts (.methodLink RX4 66 Lib.Math.min.name) (by decide +kernel)) (hts (.static Lib.Math.min.name) (by decide +kernel)) (hts (.initialized "java/lang/Math") (by decide +kernel)) (hts (.code Lib.Math.min.name Lib.Math.min.code 2 (some .int)) (by decide +kernel)) (Nat.le_of_ble_eq_true rfl) (Nat.le_of_ble_eq_true rfl) (by show _ ≤ 203; omega) (by show _ ≤ 10504; omega) dX4_stretch_138 ?_
            refine W.eq (g2 := F0 m 141 ls [.int (jmin (nI 200) (nI (stT (2 + k3) ((L k1).2.2 i)))), .int (nI 1), .ref b2, .ref b2]) rfl ?_
            rw [jmin_nat (a := 200) (b := stT (2 + k3) ((L k1).2.2 i)) (by omega) (by omega)]
            refine q_iast hx hb hK nb2 1 (rfl) (by omega) (by decide) hS (hA _ (by omega)) dX4_stretch_141 (fun H1 locs1 hw9 hz oq hS => ?_)
            have nb2 := hw9
            replace hwk := fun (z : Nat) (hz : z < Hw.size) => (oq z (by omega)).trans (hwk z hz)
            replace hil := hil.ne hlw9 (by omega) oq
            refine lv_astore (lv' := [(10, .ref b2), (9, .int (nI (stT (2 + k3) ((L k1).2.2 i)))), (8, .int (nI (stF (2 + k3) ((L k1).2.1 i)))), (7, .ref (ads1 i)), (6, .int (nI i)), (5, .int (nI ((L k1).1))), (4, .ref (la k1)), (3, .ref mk), (2, .int (nI (2 + k3))), (1, .int (nI k1)), (0, .ref o)]) hx hb dX4_stretch_142 hl (by decide) rfl (fun ls hl => ?_)
            refine lv_iload hx hb dX4_stretch_144 (lv_at hl 2 rfl) ?_
            refine lv_sipush (v := nI 200) hx hb dX4_stretch_146 (by decide) ?_
            refine lv_icmp_gt (tgt := 159) hx hb dX4_stretch_149 (by decide) (fun c149 => ?_) (fun c149 => ?_)
            · skip
              have c149 : 200 < stF (2 + k3) ((L k1).2.1 i) := (nc_lt (a := 200) (b := stF (2 + k3) ((L k1).2.1 i)) (by omega) (by omega)).mp c149
              refine lv_iinc (v := nI (i + 1)) (lv' := [(6, .int (nI (i + 1))), (10, .ref b2), (9, .int (nI (stT (2 + k3) ((L k1).2.2 i)))), (8, .int (nI (stF (2 + k3) ((L k1).2.1 i)))), (7, .ref (ads1 i)), (5, .int (nI ((L k1).1))), (4, .ref (la k1)), (3, .ref mk), (2, .int (nI (2 + k3))), (1, .int (nI k1)), (0, .ref o)]) hx hb dX4_stretch_159 hl (k := 4) rfl (inc_1 _) (by decide) rfl (fun ls hl => ?_)
              refine lv_goto (tgt := 49) hx hb dX4_stretch_162 (by decide) ?_
              exact W.widen (by omega) (by omega) (hnext _ _ _ ⟨mk, adm, S, hS, lv_sub hl [0, 5, 6, 7, 8, 9, 10] rfl, (by omega), (by exact hil), (by first | exact st_y hR1 (by omega) (by omega) (by omega) hrep (by omega) | exact st_n hR1 (by omega) (by omega) (by omega) hrep (by omega)), (by exact hwk)⟩)
            · skip
              have c149 : ¬ (200 < stF (2 + k3) ((L k1).2.1 i)) := fun q9 => c149 ((nc_lt (a := 200) (b := stF (2 + k3) ((L k1).2.1 i)) (by omega) (by omega)).mpr q9)
              refine lv_aload_n hx hb dX4_stretch_152 rfl (lv_at hl 7 rfl) ?_
              refine lv_aload hx hb dX4_stretch_153 (lv_at hl 0 rfl) ?_
              obtain ⟨b3, hb3⟩ : ∃ z : Nat, z = H1.size := ⟨_, rfl⟩
              have lnb2_b3 : b2 < b3 := by have h8 := nb2.lt; omega
              have ln_b3 : s.heap.size ≤ b3 := by have h8 := hS.1; omega
              have lw_b3 : Hw.size ≤ b3 := by have h8 := kp_sz hwk; omega
              refine va_callr (va_runS (As := [.ref mk, .ref b2]) (rest := []) ⟨hx, hb, hml, hown, hts⟩ (conX4_with l D T b3 (o + 53) mk b2 (stF (2 + k3) ((L k1).2.1 i)) (min 200 (stT (2 + k3) ((L k1).2.2 i))) (fun k => adm k) S.1 S.2.1 S.2.2 (by omega) (by omega)) (va_cwS 2 hts gX4_stretch_X4_with rfl rfl rfl (by decide +kernel) ⟨Nat.le_of_ble_eq_true rfl, Nat.le_of_ble_eq_true rfl⟩) (preS hK ⟨hb3.symm, hil, nb2.outN (pr2_u _ _)⟩) rfl rfl hl.1 rfl (lv_room (Nat.le_of_ble_eq_true rfl)) dX4_stretch_155 ⟨by show _ ≤ 203; omega, by show _ ≤ 10504; omega⟩) hS (fun q _ h9 => (hA q (by have h8 : b3 ≤ q := h9; omega))) (fun q h9 => (hA q (by have h8 : b3 ≤ q := h9; omega))) (fun u ra t H1 locs1 ht hvm hw9 hB hz1 hk1 hS => ?_)
              try dsimp only at hB
              rw [ht] at hB
              obtain ⟨a2, rfl⟩ : ∃ z, z = ra := ⟨_, rfl⟩
              obtain ⟨hra, hz9, hil⟩ := hB
              subst hra
              replace hwk := fun (z : Nat) (hz : z < Hw.size) => (hk1 z (by omega) (fun h9 => by have h8 : a2 ≤ z := h9; omega)).trans (hwk z hz)
              refine lv_astore_n (lv' := [(3, .ref a2), (10, .ref b2), (9, .int (nI (stT (2 + k3) ((L k1).2.2 i)))), (8, .int (nI (stF (2 + k3) ((L k1).2.1 i)))), (7, .ref (ads1 i)), (6, .int (nI i)), (5, .int (nI ((L k1).1))), (4, .ref (la k1)), (2, .int (nI (2 + k3))), (1, .int (nI k1)), (0, .ref o)]) hx hb dX4_stretch_158 rfl hl (by decide) rfl (fun ls hl => ?_)
              refine lv_iinc (v := nI (i + 1)) (lv' := [(6, .int (nI (i + 1))), (3, .ref a2), (10, .ref b2), (9, .int (nI (stT (2 + k3) ((L k1).2.2 i)))), (8, .int (nI (stF (2 + k3) ((L k1).2.1 i)))), (7, .ref (ads1 i)), (5, .int (nI ((L k1).1))), (4, .ref (la k1)), (2, .int (nI (2 + k3))), (1, .int (nI k1)), (0, .ref o)]) hx hb dX4_stretch_159 hl (k := 5) rfl (inc_1 _) (by decide) rfl (fun ls hl => ?_)
              refine lv_goto (tgt := 49) hx hb dX4_stretch_162 (by decide) ?_
              exact W.widen (by omega) (by omega) (hnext _ _ _ ⟨a2, fun k => if k = S.1 then b2 else adm k, snocS S (stF (2 + k3) ((L k1).2.1 i)) (min 200 (stT (2 + k3) ((L k1).2.2 i))), hS, lv_sub hl [0, 6, 7, 1, 8, 9, 10] rfl, (by omega), (by exact hil), (by first | exact st_y hR1 (by omega) (by omega) (by omega) hrep (by omega) | exact st_n hR1 (by omega) (by omega) (by omega) hrep (by omega)), (by exact hwk)⟩)
        · skip
          have c69 : ((L k1).2.1 i) % 2 = 0 := (nc_eq (a := ((L k1).2.1 i) % 2) (b := 0) (by omega) (by omega)).mp c69
          refine lv_aload hx hb dX4_stretch_72 (lv_at hl 0 rfl) ?_
          refine lv_iconst (v := nI 0) hx hb dX4_stretch_74 (by decide) ?_
          refine q_iald hx hb hK ((hi1.old hwk).2 i (by omega)).2 0 (rfl) (by omega) (by decide) dX4_stretch_75 ?_
          refine W.eq (g2 := F0 m 76 ls [.int (nI ((L k1).2.1 i))]) rfl ?_
          refine lv_iload_n hx hb dX4_stretch_76 rfl (lv_at hl 5 rfl) ?_
          refine lv_imul hx hb dX4_stretch_77 ?_
          rw [pk_mul]
          refine lv_goto (tgt := 91) hx hb dX4_stretch_78 (by decide) ?_
          refine W.eq (congrArg (fun z9 => F0 m 91 ls [.int (nI z9)]) (stF_e (tt := 2 + k3) c69)) ?_
          refine lv_istore (lv' := [(8, .int (nI (stF (2 + k3) ((L k1).2.1 i)))), (7, .ref (ads1 i)), (6, .int (nI i)), (5, .int (nI ((L k1).1))), (4, .ref (la k1)), (3, .ref mk), (2, .int (nI (2 + k3))), (1, .int (nI k1)), (0, .ref o)]) hx hb dX4_stretch_91 hl (by decide) rfl (fun ls hl => ?_)
          refine lv_aload hx hb dX4_stretch_93 (lv_at hl 1 rfl) ?_
          refine lv_iconst (v := nI 1) hx hb dX4_stretch_95 (by decide) ?_
          refine q_iald hx hb hK ((hi1.old hwk).2 i (by omega)).2 1 (rfl) (by omega) (by decide) dX4_stretch_96 ?_
          refine W.eq (g2 := F0 m 97 ls [.int (nI ((L k1).2.2 i))]) rfl ?_
          refine lv_iconst (v := nI 2) hx hb dX4_stretch_97 (by decide) ?_
          refine lv_irem hx hb dX4_stretch_98 (by decide) ?_
          rw [pk_rem (a := (L k1).2.2 i) (d := 2) (by omega) (by omega) (by omega)]
          refine lv_if_ne (tgt := 111) hx hb dX4_stretch_99 (by decide) (fun c99 => ?_) (fun c99 => ?_)
          · skip
            have c99 : ¬ (((L k1).2.2 i) % 2 = 0) := fun q9 => c99 ((nc_eq (a := ((L k1).2.2 i) % 2) (b := 0) (by omega) (by omega)).mpr q9)
            refine lv_aload hx hb dX4_stretch_111 (lv_at hl 1 rfl) ?_
            refine lv_iconst (v := nI 1) hx hb dX4_stretch_113 (by decide) ?_
            refine q_iald hx hb hK ((hi1.old hwk).2 i (by omega)).2 1 (rfl) (by omega) (by decide) dX4_stretch_114 ?_
            refine W.eq (g2 := F0 m 115 ls [.int (nI ((L k1).2.2 i))]) rfl ?_
            refine lv_iconst (v := nI 1) hx hb dX4_stretch_115 (by decide) ?_
            refine lv_iadd hx hb dX4_stretch_116 ?_
            rw [nI_add]
            refine lv_iload_n hx hb dX4_stretch_117 rfl (lv_at hl 6 rfl) ?_
            refine lv_imul hx hb dX4_stretch_118 ?_
            rw [pk_mul]
            refine lv_iconst (v := nI 1) hx hb dX4_stretch_119 (by decide) ?_
            refine lv_isub hx hb dX4_stretch_120 ?_
            rw [pk_sub (a := (((L k1).2.2 i) + 1) * (2 + k3)) (b := 1) (by omega)]
            refine W.eq (congrArg (fun z9 => F0 m 121 ls [.int (nI z9)]) (stT_o (tt := 2 + k3) c99)) ?_
            refine lv_istore (lv' := [(9, .int (nI (stT (2 + k3) ((L k1).2.2 i)))), (8, .int (nI (stF (2 + k3) ((L k1).2.1 i)))), (7, .ref (ads1 i)), (6, .int (nI i)), (5, .int (nI ((L k1).1))), (4, .ref (la k1)), (3, .ref mk), (2, .int (nI (2 + k3))), (1, .int (nI k1)), (0, .ref o)]) hx hb dX4_stretch_121 hl (by decide) rfl (fun ls hl => ?_)
            refine lv_iconst (v := nI 2) hx hb dX4_stretch_123 (by decide) ?_
            have hlw9 := hil.low
            obtain ⟨b2, hb2⟩ : ∃ z : Nat, z = H.size := ⟨_, rfl⟩
            have ln_b2 : s.heap.size ≤ b2 := by have h8 := hS.1; omega
            have lw_b2 : Hw.size ≤ b2 := by have h8 := kp_sz hwk; omega
            refine q_newi hx hb (hts (.arrayClass .int) (by decide +kernel)) hK 2 rfl (by decide) (by show _ ≤ 203; omega) (by show _ ≤ 10504; omega) hS dX4_stretch_124 (fun H1 hw9 z1 o1 hS => ?_)
            rw [← hb2] at hw9 ⊢
            have nb2 := hw9
            have sb2 : H1.size = b2 + 1 := by omega
            replace hwk := fun (z : Nat) (hz : z < Hw.size) => (o1 z (by omega)).trans (hwk z hz)
            replace hil := hil.old o1
            refine lv_dup hx hb dX4_stretch_126 rfl ?_
            refine lv_iconst (v := nI 0) hx hb dX4_stretch_127 (by decide) ?_
            refine lv_iload hx hb dX4_stretch_128 (lv_at hl 1 rfl) ?_
            refine q_iast hx hb hK nb2 0 (rfl) (by omega) (by decide) hS (hA _ (by omega)) dX4_stretch_130 (fun H1 locs1 hw9 hz oq hS => ?_)
            have nb2 := hw9
            replace hwk := fun (z : Nat) (hz : z < Hw.size) => (oq z (by omega)).trans (hwk z hz)
            replace hil := hil.ne hlw9 (by omega) oq
            refine lv_dup hx hb dX4_stretch_131 rfl ?_
            refine lv_iconst (v := nI 1) hx hb dX4_stretch_132 (by decide) ?_
            refine lv_sipush (v := nI 200) hx hb dX4_stretch_133 (by decide) ?_
            refine lv_iload hx hb dX4_stretch_136 (lv_at hl 0 rfl) ?_
            refine va_mmin hx hb (hml.trans hl.1.symm) hown (hts (.methodLink RX4 66 Lib.Math.min.name) (by decide +kernel)) (hts (.static Lib.Math.min.name) (by decide +kernel)) (hts (.initialized "java/lang/Math") (by decide +kernel)) (hts (.code Lib.Math.min.name Lib.Math.min.code 2 (some .int)) (by decide +kernel)) (Nat.le_of_ble_eq_true rfl) (Nat.le_of_ble_eq_true rfl) (by show _ ≤ 203; omega) (by show _ ≤ 10504; omega) dX4_stretch_138 ?_
            refine W.eq (g2 := F0 m 141 ls [.int (jmin (nI 200) (nI (stT (2 + k3) ((L k1).2.2 i)))), .int (nI 1), .ref b2, .ref b2]) rfl ?_
            rw [jmin_nat (a := 200) (b := stT (2 + k3) ((L k1).2.2 i)) (by omega) (by omega)]
            refine q_iast hx hb hK nb2 1 (rfl) (by omega) (by decide) hS (hA _ (by omega)) dX4_stretch_141 (fun H1 locs1 hw9 hz oq hS => ?_)
            have nb2 := hw9
            replace hwk := fun (z : Nat) (hz : z < Hw.size) => (oq z (by omega)).trans (hwk z hz)
            replace hil := hil.ne hlw9 (by omega) oq
            refine lv_astore (lv' := [(10, .ref b2), (9, .int (nI (stT (2 + k3) ((L k1).2.2 i)))), (8, .int (nI (stF (2 + k3) ((L k1).2.1 i)))), (7, .ref (ads1 i)), (6, .int (nI i)), (5, .int (nI ((L k1).1))), (4, .ref (la k1)), (3, .ref mk), (2, .int (nI (2 + k3))), (1, .int (nI k1)), (0, .ref o)]) hx hb dX4_stretch_142 hl (by decide) rfl (fun ls hl => ?_)
            refine lv_iload hx hb dX4_stretch_144 (lv_at hl 2 rfl) ?_
            refine lv_sipush (v := nI 200) hx hb dX4_stretch_146 (by decide) ?_
            refine lv_icmp_gt (tgt := 159) hx hb dX4_stretch_149 (by decide) (fun c149 => ?_) (fun c149 => ?_)
            · skip
              have c149 : 200 < stF (2 + k3) ((L k1).2.1 i) := (nc_lt (a := 200) (b := stF (2 + k3) ((L k1).2.1 i)) (by omega) (by omega)).mp c149
              refine lv_iinc (v := nI (i + 1)) (lv' := [(6, .int (nI (i + 1))), (10, .ref b2), (9, .int (nI (stT (2 + k3) ((L k1).2.2 i)))), (8, .int (nI (stF (2 + k3) ((L k1).2.1 i)))), (7, .ref (ads1 i)), (5, .int (nI ((L k1).1))), (4, .ref (la k1)), (3, .ref mk), (2, .int (nI (2 + k3))), (1, .int (nI k1)), (0, .ref o)]) hx hb dX4_stretch_159 hl (k := 4) rfl (inc_1 _) (by decide) rfl (fun ls hl => ?_)
              refine lv_goto (tgt := 49) hx hb dX4_stretch_162 (by decide) ?_
              exact W.widen (by omega) (by omega) (hnext _ _ _ ⟨mk, adm, S, hS, lv_sub hl [0, 5, 6, 7, 8, 9, 10] rfl, (by omega), (by exact hil), (by first | exact st_y hR1 (by omega) (by omega) (by omega) hrep (by omega) | exact st_n hR1 (by omega) (by omega) (by omega) hrep (by omega)), (by exact hwk)⟩)
            · skip
              have c149 : ¬ (200 < stF (2 + k3) ((L k1).2.1 i)) := fun q9 => c149 ((nc_lt (a := 200) (b := stF (2 + k3) ((L k1).2.1 i)) (by omega) (by omega)).mpr q9)
              refine lv_aload_n hx hb dX4_stretch_152 rfl (lv_at hl 7 rfl) ?_
              refine lv_aload hx hb dX4_stretch_153 (lv_at hl 0 rfl) ?_
              obtain ⟨b3, hb3⟩ : ∃ z : Nat, z = H1.size := ⟨_, rfl⟩
              have lnb2_b3 : b2 < b3 := by have h8 := nb2.lt; omega
              have ln_b3 : s.heap.size ≤ b3 := by have h8 := hS.1; omega
              have lw_b3 : Hw.size ≤ b3 := by have h8 := kp_sz hwk; omega
              refine va_callr (va_runS (As := [.ref mk, .ref b2]) (rest := []) ⟨hx, hb, hml, hown, hts⟩ (conX4_with l D T b3 (o + 53) mk b2 (stF (2 + k3) ((L k1).2.1 i)) (min 200 (stT (2 + k3) ((L k1).2.2 i))) (fun k => adm k) S.1 S.2.1 S.2.2 (by omega) (by omega)) (va_cwS 2 hts gX4_stretch_X4_with rfl rfl rfl (by decide +kernel) ⟨Nat.le_of_ble_eq_true rfl, Nat.le_of_ble_eq_true rfl⟩) (preS hK ⟨hb3.symm, hil, nb2.outN (pr2_u _ _)⟩) rfl rfl hl.1 rfl (lv_room (Nat.le_of_ble_eq_true rfl)) dX4_stretch_155 ⟨by show _ ≤ 203; omega, by show _ ≤ 10504; omega⟩) hS (fun q _ h9 => (hA q (by have h8 : b3 ≤ q := h9; omega))) (fun q h9 => (hA q (by have h8 : b3 ≤ q := h9; omega))) (fun u ra t H1 locs1 ht hvm hw9 hB hz1 hk1 hS => ?_)
              try dsimp only at hB
              rw [ht] at hB
              obtain ⟨a3, rfl⟩ : ∃ z, z = ra := ⟨_, rfl⟩
              obtain ⟨hra, hz9, hil⟩ := hB
              subst hra
              replace hwk := fun (z : Nat) (hz : z < Hw.size) => (hk1 z (by omega) (fun h9 => by have h8 : a3 ≤ z := h9; omega)).trans (hwk z hz)
              refine lv_astore_n (lv' := [(3, .ref a3), (10, .ref b2), (9, .int (nI (stT (2 + k3) ((L k1).2.2 i)))), (8, .int (nI (stF (2 + k3) ((L k1).2.1 i)))), (7, .ref (ads1 i)), (6, .int (nI i)), (5, .int (nI ((L k1).1))), (4, .ref (la k1)), (2, .int (nI (2 + k3))), (1, .int (nI k1)), (0, .ref o)]) hx hb dX4_stretch_158 rfl hl (by decide) rfl (fun ls hl => ?_)
              refine lv_iinc (v := nI (i + 1)) (lv' := [(6, .int (nI (i + 1))), (3, .ref a3), (10, .ref b2), (9, .int (nI (stT (2 + k3) ((L k1).2.2 i)))), (8, .int (nI (stF (2 + k3) ((L k1).2.1 i)))), (7, .ref (ads1 i)), (5, .int (nI ((L k1).1))), (4, .ref (la k1)), (2, .int (nI (2 + k3))), (1, .int (nI k1)), (0, .ref o)]) hx hb dX4_stretch_159 hl (k := 5) rfl (inc_1 _) (by decide) rfl (fun ls hl => ?_)
              refine lv_goto (tgt := 49) hx hb dX4_stretch_162 (by decide) ?_
              exact W.widen (by omega) (by omega) (hnext _ _ _ ⟨a3, fun k => if k = S.1 then b2 else adm k, snocS S (stF (2 + k3) ((L k1).2.1 i)) (min 200 (stT (2 + k3) ((L k1).2.2 i))), hS, lv_sub hl [0, 6, 7, 1, 8, 9, 10] rfl, (by omega), (by exact hil), (by first | exact st_y hR1 (by omega) (by omega) (by omega) hrep (by omega) | exact st_n hR1 (by omega) (by omega) (by omega) hrep (by omega)), (by exact hwk)⟩)
          · skip
            have c99 : ((L k1).2.2 i) % 2 = 0 := (nc_eq (a := ((L k1).2.2 i) % 2) (b := 0) (by omega) (by omega)).mp c99
            refine lv_aload hx hb dX4_stretch_102 (lv_at hl 1 rfl) ?_
            refine lv_iconst (v := nI 1) hx hb dX4_stretch_104 (by decide) ?_
            refine q_iald hx hb hK ((hi1.old hwk).2 i (by omega)).2 1 (rfl) (by omega) (by decide) dX4_stretch_105 ?_
            refine W.eq (g2 := F0 m 106 ls [.int (nI ((L k1).2.2 i))]) rfl ?_
            refine lv_iload_n hx hb dX4_stretch_106 rfl (lv_at hl 6 rfl) ?_
            refine lv_imul hx hb dX4_stretch_107 ?_
            rw [pk_mul]
            refine lv_goto (tgt := 121) hx hb dX4_stretch_108 (by decide) ?_
            refine W.eq (congrArg (fun z9 => F0 m 121 ls [.int (nI z9)]) (stT_e (tt := 2 + k3) c99)) ?_
            refine lv_istore (lv' := [(9, .int (nI (stT (2 + k3) ((L k1).2.2 i)))), (8, .int (nI (stF (2 + k3) ((L k1).2.1 i)))), (7, .ref (ads1 i)), (6, .int (nI i)), (5, .int (nI ((L k1).1))), (4, .ref (la k1)), (3, .ref mk), (2, .int (nI (2 + k3))), (1, .int (nI k1)), (0, .ref o)]) hx hb dX4_stretch_121 hl (by decide) rfl (fun ls hl => ?_)
            refine lv_iconst (v := nI 2) hx hb dX4_stretch_123 (by decide) ?_
            have hlw9 := hil.low
            obtain ⟨b2, hb2⟩ : ∃ z : Nat, z = H.size := ⟨_, rfl⟩
            have ln_b2 : s.heap.size ≤ b2 := by have h8 := hS.1; omega
            have lw_b2 : Hw.size ≤ b2 := by have h8 := kp_sz hwk; omega
            refine q_newi hx hb (hts (.arrayClass .int) (by decide +kernel)) hK 2 rfl (by decide) (by show _ ≤ 203; omega) (by show _ ≤ 10504; omega) hS dX4_stretch_124 (fun H1 hw9 z1 o1 hS => ?_)
            rw [← hb2] at hw9 ⊢
            have nb2 := hw9
            have sb2 : H1.size = b2 + 1 := by omega
            replace hwk := fun (z : Nat) (hz : z < Hw.size) => (o1 z (by omega)).trans (hwk z hz)
            replace hil := hil.old o1
            refine lv_dup hx hb dX4_stretch_126 rfl ?_
            refine lv_iconst (v := nI 0) hx hb dX4_stretch_127 (by decide) ?_
            refine lv_iload hx hb dX4_stretch_128 (lv_at hl 1 rfl) ?_
            refine q_iast hx hb hK nb2 0 (rfl) (by omega) (by decide) hS (hA _ (by omega)) dX4_stretch_130 (fun H1 locs1 hw9 hz oq hS => ?_)
            have nb2 := hw9
            replace hwk := fun (z : Nat) (hz : z < Hw.size) => (oq z (by omega)).trans (hwk z hz)
            replace hil := hil.ne hlw9 (by omega) oq
            refine lv_dup hx hb dX4_stretch_131 rfl ?_
            refine lv_iconst (v := nI 1) hx hb dX4_stretch_132 (by decide) ?_
            refine lv_sipush (v := nI 200) hx hb dX4_stretch_133 (by decide) ?_
            refine lv_iload hx hb dX4_stretch_136 (lv_at hl 0 rfl) ?_
            refine va_mmin hx hb (hml.trans hl.1.symm) hown (hts (.methodLink RX4 66 Lib.Math.min.name) (by decide +kernel)) (hts (.static Lib.Math.min.name) (by decide +kernel)) (hts (.initialized "java/lang/Math") (by decide +kernel)) (hts (.code Lib.Math.min.name Lib.Math.min.code 2 (some .int)) (by decide +kernel)) (Nat.le_of_ble_eq_true rfl) (Nat.le_of_ble_eq_true rfl) (by show _ ≤ 203; omega) (by show _ ≤ 10504; omega) dX4_stretch_138 ?_
            refine W.eq (g2 := F0 m 141 ls [.int (jmin (nI 200) (nI (stT (2 + k3) ((L k1).2.2 i)))), .int (nI 1), .ref b2, .ref b2]) rfl ?_
            rw [jmin_nat (a := 200) (b := stT (2 + k3) ((L k1).2.2 i)) (by omega) (by omega)]
            refine q_iast hx hb hK nb2 1 (rfl) (by omega) (by decide) hS (hA _ (by omega)) dX4_stretch_141 (fun H1 locs1 hw9 hz oq hS => ?_)
            have nb2 := hw9
            replace hwk := fun (z : Nat) (hz : z < Hw.size) => (oq z (by omega)).trans (hwk z hz)
            replace hil := hil.ne hlw9 (by omega) oq
            refine lv_astore (lv' := [(10, .ref b2), (9, .int (nI (stT (2 + k3) ((L k1).2.2 i)))), (8, .int (nI (stF (2 + k3) ((L k1).2.1 i)))), (7, .ref (ads1 i)), (6, .int (nI i)), (5, .int (nI ((L k1).1))), (4, .ref (la k1)), (3, .ref mk), (2, .int (nI (2 + k3))), (1, .int (nI k1)), (0, .ref o)]) hx hb dX4_stretch_142 hl (by decide) rfl (fun ls hl => ?_)
            refine lv_iload hx hb dX4_stretch_144 (lv_at hl 2 rfl) ?_
            refine lv_sipush (v := nI 200) hx hb dX4_stretch_146 (by decide) ?_
            refine lv_icmp_gt (tgt := 159) hx hb dX4_stretch_149 (by decide) (fun c149 => ?_) (fun c149 => ?_)
            · skip
              have c149 : 200 < stF (2 + k3) ((L k1).2.1 i) := (nc_lt (a := 200) (b := stF (2 + k3) ((L k1).2.1 i)) (by omega) (by omega)).mp c149
              refine lv_iinc (v := nI (i + 1)) (lv' := [(6, .int (nI (i + 1))), (10, .ref b2), (9, .int (nI (stT (2 + k3) ((L k1).2.2 i)))), (8, .int (nI (stF (2 + k3) ((L k1).2.1 i)))), (7, .ref (ads1 i)), (5, .int (nI ((L k1).1))), (4, .ref (la k1)), (3, .ref mk), (2, .int (nI (2 + k3))), (1, .int (nI k1)), (0, .ref o)]) hx hb dX4_stretch_159 hl (k := 4) rfl (inc_1 _) (by decide) rfl (fun ls hl => ?_)
              refine lv_goto (tgt := 49) hx hb dX4_stretch_162 (by decide) ?_
              exact W.widen (by omega) (by omega) (hnext _ _ _ ⟨mk, adm, S, hS, lv_sub hl [0, 5, 6, 7, 8, 9, 10] rfl, (by omega), (by exact hil), (by first | exact st_y hR1 (by omega) (by omega) (by omega) hrep (by omega) | exact st_n hR1 (by omega) (by omega) (by omega) hrep (by omega)), (by exact hwk)⟩)
            · skip
              have c149 : ¬ (200 < stF (2 + k3) ((L k1).2.1 i)) := fun q9 => c149 ((nc_lt (a := 200) (b := stF (2 + k3) ((L k1).2.1 i)) (by omega) (by omega)).mpr q9)
              refine lv_aload_n hx hb dX4_stretch_152 rfl (lv_at hl 7 rfl) ?_
              refine lv_aload hx hb dX4_stretch_153 (lv_at hl 0 rfl) ?_
              obtain ⟨b3, hb3⟩ : ∃ z : Nat, z = H1.size := ⟨_, rfl⟩
              have lnb2_b3 : b2 < b3 := by have h8 := nb2.lt; omega
              have ln_b3 : s.heap.size ≤ b3 := by have h8 := hS.1; omega
              have lw_b3 : Hw.size ≤ b3 := by have h8 := kp_sz hwk; omega
              refine va_callr (va_runS (As := [.ref mk, .ref b2]) (rest := []) ⟨hx, hb, hml, hown, hts⟩ (conX4_with l D T b3 (o + 53) mk b2 (stF (2 + k3) ((L k1).2.1 i)) (min 200 (stT (2 + k3) ((L k1).2.2 i))) (fun k => adm k) S.1 S.2.1 S.2.2 (by omega) (by omega)) (va_cwS 2 hts gX4_stretch_X4_with rfl rfl rfl (by decide +kernel) ⟨Nat.le_of_ble_eq_true rfl, Nat.le_of_ble_eq_true rfl⟩) (preS hK ⟨hb3.symm, hil, nb2.outN (pr2_u _ _)⟩) rfl rfl hl.1 rfl (lv_room (Nat.le_of_ble_eq_true rfl)) dX4_stretch_155 ⟨by show _ ≤ 203; omega, by show _ ≤ 10504; omega⟩) hS (fun q _ h9 => (hA q (by have h8 : b3 ≤ q := h9; omega))) (fun q h9 => (hA q (by have h8 : b3 ≤ q := h9; omega))) (fun u ra t H1 locs1 ht hvm hw9 hB hz1 hk1 hS => ?_)
              try dsimp only at hB
              rw [ht] at hB
              obtain ⟨a4, rfl⟩ : ∃ z, z = ra := ⟨_, rfl⟩
              obtain ⟨hra, hz9, hil⟩ := hB
              subst hra
              replace hwk := fun (z : Nat) (hz : z < Hw.size) => (hk1 z (by omega) (fun h9 => by have h8 : a4 ≤ z := h9; omega)).trans (hwk z hz)
              refine lv_astore_n (lv' := [(3, .ref a4), (10, .ref b2), (9, .int (nI (stT (2 + k3) ((L k1).2.2 i)))), (8, .int (nI (stF (2 + k3) ((L k1).2.1 i)))), (7, .ref (ads1 i)), (6, .int (nI i)), (5, .int (nI ((L k1).1))), (4, .ref (la k1)), (2, .int (nI (2 + k3))), (1, .int (nI k1)), (0, .ref o)]) hx hb dX4_stretch_158 rfl hl (by decide) rfl (fun ls hl => ?_)
              refine lv_iinc (v := nI (i + 1)) (lv' := [(6, .int (nI (i + 1))), (3, .ref a4), (10, .ref b2), (9, .int (nI (stT (2 + k3) ((L k1).2.2 i)))), (8, .int (nI (stF (2 + k3) ((L k1).2.1 i)))), (7, .ref (ads1 i)), (5, .int (nI ((L k1).1))), (4, .ref (la k1)), (2, .int (nI (2 + k3))), (1, .int (nI k1)), (0, .ref o)]) hx hb dX4_stretch_159 hl (k := 5) rfl (inc_1 _) (by decide) rfl (fun ls hl => ?_)
              refine lv_goto (tgt := 49) hx hb dX4_stretch_162 (by decide) ?_
              exact W.widen (by omega) (by omega) (hnext _ _ _ ⟨a4, fun k => if k = S.1 then b2 else adm k, snocS S (stF (2 + k3) ((L k1).2.1 i)) (min 200 (stT (2 + k3) ((L k1).2.2 i))), hS, lv_sub hl [0, 6, 7, 1, 8, 9, 10] rfl, (by omega), (by exact hil), (by first | exact st_y hR1 (by omega) (by omega) (by omega) hrep (by omega) | exact st_n hR1 (by omega) (by omega) (by omega) hrep (by omega)), (by exact hwk)⟩)
    · skip
      intro H locs ls hin9
      obtain ⟨mk, adm, S, hS, hl, hmk, hil, hrep, hwk⟩ := hin9
      have hle9 := hrep.1.le
      refine lv_iload hx hb dX4_stretch_49 (lv_at hl 0 rfl) ?_
      refine lv_iload hx hb dX4_stretch_51 (lv_at hl 1 rfl) ?_
      refine lv_icmp_ge (tgt := 165) hx hb dX4_stretch_53 (by decide) (fun c53 => ?_) (fun c53 => ?_)
      · skip
        have c53 : (L k1).1 ≤ (L k1).1 := (nc_le (a := (L k1).1) (b := (L k1).1) (by omega) (by omega)).mp c53
        replace hrep := st_e hR1 (by omega) (by omega) hrep
        refine lv_aload_n hx hb dX4_stretch_165 rfl (lv_at hl 6 rfl) ?_
        refine q_get (v := .ref (o + 38)) hx hb hts hin4 hown hK (hw.ob.kept (hwk _ hw.ob.lt)) rfl 3 (by decide) (hts (.fieldLink RX4 18 "PuddingstoneLineLaw$Stones" "sets" "[[[I") (by decide +kernel)) (fun _ h9 => h9) rfl dX4_stretch_166 ?_
        refine lv_iload_n hx hb dX4_stretch_169 rfl (lv_at hl 5 rfl) ?_
        refine lv_aload_n hx hb dX4_stretch_170 rfl (lv_at hl 3 rfl) ?_
        refine q_aastq hx hb hK (hw.ss.kept (hwk _ hw.ss.lt)) hil.1 k1 rfl (by omega) (by decide) hS (hA _ (by omega)) dX4_stretch_171 (fun H1 locs1 hw9 hz oq hS => ?_)
        replace hw := (hw.old hwk).setL (k := k1) (m := mk) (S := S) (by omega) hrep.1.le ⟨_, hil.wk (by omega)⟩ hw9 oq
        replace hil := hil.up (m := o + 53) (by omega) (by omega) (fun z h8 h7 => oq z (by omega))
        refine lv_aload_n hx hb dX4_stretch_172 rfl (lv_at hl 6 rfl) ?_
        refine q_get (v := .ref (ad 0)) hx hb hts hin4 hown hK hw.ob rfl 0 (by decide) (hts (.fieldLink RX4 10 "PuddingstoneLineLaw$Stones" "m" "LPuddingstoneLine;") (by decide +kernel)) (fun _ h9 => h9) rfl dX4_stretch_173 ?_
        refine lv_iload_n hx hb dX4_stretch_176 rfl (lv_at hl 5 rfl) ?_
        refine lv_iload_n hx hb dX4_stretch_177 rfl (lv_at hl 4 rfl) ?_
        refine va_calli (va_runV (As := [.int (nI k1), .int (nI (2 + k3))]) (rest := []) ⟨hx, hb, hml, hown, hts⟩ (conX3_stretch l D T ad F V sr C k1 (2 + k3) (by omega) (by omega) (by omega)) (cwV 2 hts gX4_stretch_X3_stretch rfl rfl rfl (by decide +kernel) ⟨Nat.le_of_ble_eq_true rfl, Nat.le_of_ble_eq_true rfl⟩) (preV hK hw.pl.o rfl hw.pl) rfl rfl hl.1 rfl (lv_room (Nat.le_of_ble_eq_true rfl)) dX4_stretch_178 ⟨by show _ ≤ 203; omega, by show _ ≤ 10504; omega⟩) hS (fun q _ h9 => (by obtain ⟨i9, h8, rfl⟩ := h9; exact hA _ (by have := hw.1 i9 h8; omega))) (fun q h9 => (by obtain ⟨i9, h8, rfl⟩ := h9; exact hA _ (by have := hw.1 i9 h8; omega))) (fun r u t H1 locs1 ht hvm hw9 hB hz1 hk1 hS => ?_)
        try dsimp only at hB
        rw [ht] at hB
        rw [hw9]
        replace hil := hil.up (m := o + 53) (by omega) (by omega) (fun z h8 h7 => hk1 z h7 (fun ⟨i9, h6, h5⟩ => by have := hw.1 i9 h6; omega))
        replace hw := hw.setP hB (fun q h1 h2 => hk1 q h1 h2)
        refine lv_aload_n hx hb dX4_stretch_181 rfl (lv_at hl 3 rfl) ?_
        refine vp_callSi (va_runS (As := [.ref mk]) (rest := [.int (cntZ (strZ (va_up F 8 (copyZ (F 8) (F k1) 201)) k1 (2 + k3) 201) 201)]) ⟨hx, hb, hml, hown, hts⟩ (conX4_count l D T (o + 53) mk (fun k => adm k) S.1 S.2.1 S.2.2 (fun k hk => hrep.sp hk) hrep.1.le) (va_cwS 1 hts gX4_stretch_X4_count rfl rfl rfl (by decide +kernel) ⟨Nat.le_of_ble_eq_true rfl, Nat.le_of_ble_eq_true rfl⟩) (preS hK hil) rfl rfl hl.1 rfl (lv_room (Nat.le_of_ble_eq_true rfl)) dX4_stretch_182 ⟨by show _ ≤ 203; omega, by show _ ≤ 10504; omega⟩).run (fun r5 hr5 => ?_)
        rw [hr5]
        have hrp := str_rep F (show k1 < 8 by omega) (show 2 ≤ 2 + k3 by omega) (show 2 + k3 ≤ 10 by omega) hrep
        have hans := ans_cnt hrp
        refine lv_icmp_ne (tgt := 192) hx hb dX4_stretch_185 (by decide) (fun c185 => ?_) (fun c185 => ?_)
        · skip
          exact absurd hans c185
        · skip
          refine lv_iconst (v := nI 1) hx hb dX4_stretch_188 (by decide) ?_
          refine lv_goto (tgt := 193) hx hb dX4_stretch_189 (by decide) ?_
          refine W.widen (k := 203) (n := 10504) (by first | omega | decide) (by first | omega | decide) ?_
          exact W.zret (v := nI 1) hx hb hr (rfl) (fun t ht _ => ⟨⟨nI 1, (), rfl, by rfl, by dsimp only; rw [ht]; exact ⟨_, _, _, _, _, _, _, _, _, by omega, (by have h8 := hS.1; omega), hw, hinv.put hinv.1 up_ne8 (by rw [va_up_s]; exact hrp)⟩⟩, hS.F ht⟩) hS.2.2 dX4_stretch_193
      · skip
        have c53 : ¬ ((L k1).1 ≤ (L k1).1) := fun q9 => c53 ((nc_le (a := (L k1).1) (b := (L k1).1) (by omega) (by omega)).mpr q9)
        omega
  · skip
    have c14 : k2 = 0 := (nc_eq (a := k2) (b := 0) (by omega) (by omega)).mp c14
    refine lv_bipush (v := nI 9) hx hb dX4_stretch_17 (by decide) ?_
    refine lv_goto (tgt := 23) hx hb dX4_stretch_19 (by decide) ?_
    refine va_calli (va_runV (As := [.int (nI 9)]) (rest := [.int (nI 2)]) ⟨hx, hb, hml, hown, hts⟩ (conX4_draw l D T ad o sc N sf (dr + 1 + 1) F V sr C L U la vv (by omega) (by omega) 9 (by omega) (by omega)) (cwV 1 hts gX4_stretch_X4_draw rfl rfl rfl (by decide +kernel) ⟨Nat.le_of_ble_eq_true rfl, Nat.le_of_ble_eq_true rfl⟩) (preV hK hw.ob rfl hw) rfl rfl hl.1 rfl (lv_room (Nat.le_of_ble_eq_true rfl)) dX4_stretch_23 ⟨Nat.le_of_ble_eq_true rfl, Nat.le_of_ble_eq_true rfl⟩) hS (fun q _ h9 => (by have h8 : q = o := h9; rw [h8]; exact hA_o)) (fun q h9 => (by have h8 : q = o := h9; rw [h8]; exact hA_o)) (fun r u t H1 locs1 ht hvm hw9 hB hz1 hk1 hS => ?_)
    try dsimp only at hB
    rw [ht] at hB
    obtain ⟨k3, hk3, rfl⟩ := hw9
    replace hw := hB
    refine lv_iadd hx hb dX4_stretch_26 ?_
    rw [nI_add]
    refine lv_istore_n (lv' := [(2, .int (nI (2 + k3))), (1, .int (nI k1)), (0, .ref o)]) hx hb dX4_stretch_27 rfl hl (by decide) rfl (fun ls hl => ?_)
    refine lv_iconst (v := nI 0) hx hb dX4_stretch_28 (by decide) ?_
    obtain ⟨Hw, hHw⟩ : ∃ z : Heap, z = H1 := ⟨_, rfl⟩
    obtain ⟨b1, hb1⟩ : ∃ z : Nat, z = H1.size := ⟨_, rfl⟩
    have ln_b1 : s.heap.size ≤ b1 := by have h8 := hS.1; omega
    have lw_b1 : Hw.size ≤ b1 := by rw [hHw]; omega
    refine q_newqa hx hb hown (hts (.classLink RX4 44 "[I") (by decide +kernel)) hK 0 rfl (by omega) (by show _ ≤ 203; omega) (by show _ ≤ 10504; omega) hS dX4_stretch_29 (fun H1 hw9 z1 o1 hS => ?_)
    rw [← hb1] at hw9 ⊢
    have nb1 := hw9
    have sb1 : H1.size = b1 + 1 := by omega
    rw [← hHw] at hw
    have hwk : ∀ z : Nat, z < Hw.size → H1[z]? = Hw[z]? := by rw [hHw]; exact fun z hz => o1 z (by omega)
    have hil : ILA D T (o + 53) b1 (fun _ => 0) 0 (fun _ => 0) (fun _ => 0) H1 := ILA.nil nb1
    refine lv_astore_n (lv' := [(3, .ref b1), (2, .int (nI (2 + k3))), (1, .int (nI k1)), (0, .ref o)]) hx hb dX4_stretch_32 rfl hl (by decide) rfl (fun ls hl => ?_)
    refine lv_aload_n hx hb dX4_stretch_33 rfl (lv_at hl 3 rfl) ?_
    refine q_get (v := .ref (o + 38)) hx hb hts hin4 hown hK (hw.ob.kept (hwk _ hw.ob.lt)) rfl 3 (by decide) (hts (.fieldLink RX4 18 "PuddingstoneLineLaw$Stones" "sets" "[[[I") (by decide +kernel)) (fun _ h9 => h9) rfl dX4_stretch_34 ?_
    refine lv_iload_n hx hb dX4_stretch_37 rfl (lv_at hl 2 rfl) ?_
    refine q_aald hx hb hK 8 rfl rfl (hw.ss.kept (hwk _ hw.ss.lt)) k1 rfl (by omega) (by decide) (b := la k1) rfl dX4_stretch_38 ?_
    obtain ⟨hla1, hln1, ads1, hi1⟩ := hw.il k1 (by omega)
    have hR1 := hinv.2.1 k1 (by omega)
    refine lv_astore (lv' := [(4, .ref (la k1)), (3, .ref b1), (2, .int (nI (2 + k3))), (1, .int (nI k1)), (0, .ref o)]) hx hb dX4_stretch_39 hl (by decide) rfl (fun ls hl => ?_)
    refine lv_aload hx hb dX4_stretch_41 (lv_at hl 0 rfl) ?_
    refine q_len hx hb hK 5 rfl (hi1.old hwk).1 dX4_stretch_43 ?_
    refine lv_istore (lv' := [(5, .int (nI ((L k1).1))), (4, .ref (la k1)), (3, .ref b1), (2, .int (nI (2 + k3))), (1, .int (nI k1)), (0, .ref o)]) hx hb dX4_stretch_44 hl (by decide) rfl (fun ls hl => ?_)
    refine lv_iconst (v := nI 0) hx hb dX4_stretch_46 (by decide) ?_
    refine lv_istore (lv' := [(6, .int (nI 0)), (5, .int (nI ((L k1).1))), (4, .ref (la k1)), (3, .ref b1), (2, .int (nI (2 + k3))), (1, .int (nI k1)), (0, .ref o)]) hx hb dX4_stretch_47 hl (by decide) rfl (fun ls hl => ?_)
    refine q_forg (fun (i : Nat) (H : Heap) (locs : List Loc) (ls : Array Slot) => ∃ mk : Nat, ∃ adm : Nat → Nat, ∃ S : SL, va_S A s.heap H locs ∧ lv_has ls 11 [(6, .int (nI i)), (5, .int (nI ((L k1).1))), (4, .ref (la k1)), (3, .ref mk), (2, .int (nI (2 + k3))), (1, .int (nI k1)), (0, .ref o)] ∧ o + 53 ≤ mk ∧ ILA D T (o + 53) mk adm S.1 S.2.1 S.2.2 H ∧ Rep (stB (pB (F k1)) (2 + k3)) (sfN (L k1) (2 + k3) i) S ∧ ∀ z : Nat, z < Hw.size → H[z]? = Hw[z]?) ((L k1).1) 2 104 ?_ ?_ ?_
    · skip
      exact ⟨b1, fun _ => 0, (0, fun _ => 0, fun _ => 0), hS, lv_sub hl [0, 1, 2, 3, 4, 5, 6] rfl, (by omega), (by exact hil), (by rw [sfN_0]; exact Rep.nil _ _ _), (by exact hwk)⟩
    · skip
      intro i H locs ls hi9 hin9 hnext
      obtain ⟨mk, adm, S, hS, hl, hmk, hil, hrep, hwk⟩ := hin9
      have hle9 := hrep.1.le
      refine lv_iload hx hb dX4_stretch_49 (lv_at hl 0 rfl) ?_
      refine lv_iload hx hb dX4_stretch_51 (lv_at hl 1 rfl) ?_
      refine lv_icmp_ge (tgt := 165) hx hb dX4_stretch_53 (by decide) (fun c53 => ?_) (fun c53 => ?_)
      · skip
        have c53 : (L k1).1 ≤ i := (nc_le (a := (L k1).1) (b := i) (by omega) (by omega)).mp c53
        omega
      · skip
        have c53 : ¬ ((L k1).1 ≤ i) := fun q9 => c53 ((nc_le (a := (L k1).1) (b := i) (by omega) (by omega)).mpr q9)
        have hsp9 := hR1.sp (show i < (L k1).1 by omega)
        have hbg9 := st_big2 (tt := 2 + k3) (a := (L k1).2.1 i) (b := (L k1).2.2 i) (by omega) (by omega) (by omega) (by omega)
        refine lv_aload hx hb dX4_stretch_56 (lv_at hl 2 rfl) ?_
        refine lv_iload hx hb dX4_stretch_58 (lv_at hl 0 rfl) ?_
        refine q_aald hx hb hK 5 rfl rfl (hi1.old hwk).1 i rfl (by omega) (by omega) (b := ads1 i) rfl dX4_stretch_60 ?_
        refine lv_astore (lv' := [(7, .ref (ads1 i)), (6, .int (nI i)), (5, .int (nI ((L k1).1))), (4, .ref (la k1)), (3, .ref mk), (2, .int (nI (2 + k3))), (1, .int (nI k1)), (0, .ref o)]) hx hb dX4_stretch_61 hl (by decide) rfl (fun ls hl => ?_)
        refine lv_aload hx hb dX4_stretch_63 (lv_at hl 0 rfl) ?_
        refine lv_iconst (v := nI 0) hx hb dX4_stretch_65 (by decide) ?_
        refine q_iald hx hb hK ((hi1.old hwk).2 i (by omega)).2 0 (rfl) (by omega) (by decide) dX4_stretch_66 ?_
        refine W.eq (g2 := F0 m 67 ls [.int (nI ((L k1).2.1 i))]) rfl ?_
        refine lv_iconst (v := nI 2) hx hb dX4_stretch_67 (by decide) ?_
        refine lv_irem hx hb dX4_stretch_68 (by decide) ?_
        rw [pk_rem (a := (L k1).2.1 i) (d := 2) (by omega) (by omega) (by omega)]
        refine lv_if_ne (tgt := 81) hx hb dX4_stretch_69 (by decide) (fun c69 => ?_) (fun c69 => ?_)
        · skip
          have c69 : ¬ (((L k1).2.1 i) % 2 = 0) := fun q9 => c69 ((nc_eq (a := ((L k1).2.1 i) % 2) (b := 0) (by omega) (by omega)).mpr q9)
          refine lv_aload hx hb dX4_stretch_81 (lv_at hl 0 rfl) ?_
          refine lv_iconst (v := nI 0) hx hb dX4_stretch_83 (by decide) ?_
          refine q_iald hx hb hK ((hi1.old hwk).2 i (by omega)).2 0 (rfl) (by omega) (by decide) dX4_stretch_84 ?_
          refine W.eq (g2 := F0 m 85 ls [.int (nI ((L k1).2.1 i))]) rfl ?_
          refine lv_iconst (v := nI 1) hx hb dX4_stretch_85 (by decide) ?_
          refine lv_isub hx hb dX4_stretch_86 ?_
          rw [pk_sub (a := (L k1).2.1 i) (b := 1) (by omega)]
          refine lv_iload_n hx hb dX4_stretch_87 rfl (lv_at hl 5 rfl) ?_
          refine lv_imul hx hb dX4_stretch_88 ?_
          rw [pk_mul]
          refine lv_iconst (v := nI 1) hx hb dX4_stretch_89 (by decide) ?_
          refine lv_iadd hx hb dX4_stretch_90 ?_
          rw [nI_add]
          refine W.eq (congrArg (fun z9 => F0 m 91 ls [.int (nI z9)]) (stF_o (tt := 2 + k3) c69)) ?_
          refine lv_istore (lv' := [(8, .int (nI (stF (2 + k3) ((L k1).2.1 i)))), (7, .ref (ads1 i)), (6, .int (nI i)), (5, .int (nI ((L k1).1))), (4, .ref (la k1)), (3, .ref mk), (2, .int (nI (2 + k3))), (1, .int (nI k1)), (0, .ref o)]) hx hb dX4_stretch_91 hl (by decide) rfl (fun ls hl => ?_)
          refine lv_aload hx hb dX4_stretch_93 (lv_at hl 1 rfl) ?_
          refine lv_iconst (v := nI 1) hx hb dX4_stretch_95 (by decide) ?_
          refine q_iald hx hb hK ((hi1.old hwk).2 i (by omega)).2 1 (rfl) (by omega) (by decide) dX4_stretch_96 ?_
          refine W.eq (g2 := F0 m 97 ls [.int (nI ((L k1).2.2 i))]) rfl ?_
          refine lv_iconst (v := nI 2) hx hb dX4_stretch_97 (by decide) ?_
          refine lv_irem hx hb dX4_stretch_98 (by decide) ?_
          rw [pk_rem (a := (L k1).2.2 i) (d := 2) (by omega) (by omega) (by omega)]
          refine lv_if_ne (tgt := 111) hx hb dX4_stretch_99 (by decide) (fun c99 => ?_) (fun c99 => ?_)
          · skip
            have c99 : ¬ (((L k1).2.2 i) % 2 = 0) := fun q9 => c99 ((nc_eq (a := ((L k1).2.2 i) % 2) (b := 0) (by omega) (by omega)).mpr q9)
            refine lv_aload hx hb dX4_stretch_111 (lv_at hl 1 rfl) ?_
            refine lv_iconst (v := nI 1) hx hb dX4_stretch_113 (by decide) ?_
            refine q_iald hx hb hK ((hi1.old hwk).2 i (by omega)).2 1 (rfl) (by omega) (by decide) dX4_stretch_114 ?_
            refine W.eq (g2 := F0 m 115 ls [.int (nI ((L k1).2.2 i))]) rfl ?_
            refine lv_iconst (v := nI 1) hx hb dX4_stretch_115 (by decide) ?_
            refine lv_iadd hx hb dX4_stretch_116 ?_
            rw [nI_add]
            refine lv_iload_n hx hb dX4_stretch_117 rfl (lv_at hl 6 rfl) ?_
            refine lv_imul hx hb dX4_stretch_118 ?_
            rw [pk_mul]
            refine lv_iconst (v := nI 1) hx hb dX4_stretch_119 (by decide) ?_
            refine lv_isub hx hb dX4_stretch_120 ?_
            rw [pk_sub (a := (((L k1).2.2 i) + 1) * (2 + k3)) (b := 1) (by omega)]
            refine W.eq (congrArg (fun z9 => F0 m 121 ls [.int (nI z9)]) (stT_o (tt := 2 + k3) c99)) ?_
            refine lv_istore (lv' := [(9, .int (nI (stT (2 + k3) ((L k1).2.2 i)))), (8, .int (nI (stF (2 + k3) ((L k1).2.1 i)))), (7, .ref (ads1 i)), (6, .int (nI i)), (5, .int (nI ((L k1).1))), (4, .ref (la k1)), (3, .ref mk), (2, .int (nI (2 + k3))), (1, .int (nI k1)), (0, .ref o)]) hx hb dX4_stretch_121 hl (by decide) rfl (fun ls hl => ?_)
            refine lv_iconst (v := nI 2) hx hb dX4_stretch_123 (by decide) ?_
            have hlw9 := hil.low
            obtain ⟨b2, hb2⟩ : ∃ z : Nat, z = H.size := ⟨_, rfl⟩
            have ln_b2 : s.heap.size ≤ b2 := by have h8 := hS.1; omega
            have lw_b2 : Hw.size ≤ b2 := by have h8 := kp_sz hwk; omega
            refine q_newi hx hb (hts (.arrayClass .int) (by decide +kernel)) hK 2 rfl (by decide) (by show _ ≤ 203; omega) (by show _ ≤ 10504; omega) hS dX4_stretch_124 (fun H1 hw9 z1 o1 hS => ?_)
            rw [← hb2] at hw9 ⊢
            have nb2 := hw9
            have sb2 : H1.size = b2 + 1 := by omega
            replace hwk := fun (z : Nat) (hz : z < Hw.size) => (o1 z (by omega)).trans (hwk z hz)
            replace hil := hil.old o1
            refine lv_dup hx hb dX4_stretch_126 rfl ?_
            refine lv_iconst (v := nI 0) hx hb dX4_stretch_127 (by decide) ?_
            refine lv_iload hx hb dX4_stretch_128 (lv_at hl 1 rfl) ?_
            refine q_iast hx hb hK nb2 0 (rfl) (by omega) (by decide) hS (hA _ (by omega)) dX4_stretch_130 (fun H1 locs1 hw9 hz oq hS => ?_)
            have nb2 := hw9
            replace hwk := fun (z : Nat) (hz : z < Hw.size) => (oq z (by omega)).trans (hwk z hz)
            replace hil := hil.ne hlw9 (by omega) oq
            refine lv_dup hx hb dX4_stretch_131 rfl ?_
            refine lv_iconst (v := nI 1) hx hb dX4_stretch_132 (by decide) ?_
            refine lv_sipush (v := nI 200) hx hb dX4_stretch_133 (by decide) ?_
            refine lv_iload hx hb dX4_stretch_136 (lv_at hl 0 rfl) ?_
            refine va_mmin hx hb (hml.trans hl.1.symm) hown (hts (.methodLink RX4 66 Lib.Math.min.name) (by decide +kernel)) (hts (.static Lib.Math.min.name) (by decide +kernel)) (hts (.initialized "java/lang/Math") (by decide +kernel)) (hts (.code Lib.Math.min.name Lib.Math.min.code 2 (some .int)) (by decide +kernel)) (Nat.le_of_ble_eq_true rfl) (Nat.le_of_ble_eq_true rfl) (by show _ ≤ 203; omega) (by show _ ≤ 10504; omega) dX4_stretch_138 ?_
            refine W.eq (g2 := F0 m 141 ls [.int (jmin (nI 200) (nI (stT (2 + k3) ((L k1).2.2 i)))), .int (nI 1), .ref b2, .ref b2]) rfl ?_
            rw [jmin_nat (a := 200) (b := stT (2 + k3) ((L k1).2.2 i)) (by omega) (by omega)]
            refine q_iast hx hb hK nb2 1 (rfl) (by omega) (by decide) hS (hA _ (by omega)) dX4_stretch_141 (fun H1 locs1 hw9 hz oq hS => ?_)
            have nb2 := hw9
            replace hwk := fun (z : Nat) (hz : z < Hw.size) => (oq z (by omega)).trans (hwk z hz)
            replace hil := hil.ne hlw9 (by omega) oq
            refine lv_astore (lv' := [(10, .ref b2), (9, .int (nI (stT (2 + k3) ((L k1).2.2 i)))), (8, .int (nI (stF (2 + k3) ((L k1).2.1 i)))), (7, .ref (ads1 i)), (6, .int (nI i)), (5, .int (nI ((L k1).1))), (4, .ref (la k1)), (3, .ref mk), (2, .int (nI (2 + k3))), (1, .int (nI k1)), (0, .ref o)]) hx hb dX4_stretch_142 hl (by decide) rfl (fun ls hl => ?_)
            refine lv_iload hx hb dX4_stretch_144 (lv_at hl 2 rfl) ?_
            refine lv_sipush (v := nI 200) hx hb dX4_stretch_146 (by decide) ?_
            refine lv_icmp_gt (tgt := 159) hx hb dX4_stretch_149 (by decide) (fun c149 => ?_) (fun c149 => ?_)
            · skip
              have c149 : 200 < stF (2 + k3) ((L k1).2.1 i) := (nc_lt (a := 200) (b := stF (2 + k3) ((L k1).2.1 i)) (by omega) (by omega)).mp c149
              refine lv_iinc (v := nI (i + 1)) (lv' := [(6, .int (nI (i + 1))), (10, .ref b2), (9, .int (nI (stT (2 + k3) ((L k1).2.2 i)))), (8, .int (nI (stF (2 + k3) ((L k1).2.1 i)))), (7, .ref (ads1 i)), (5, .int (nI ((L k1).1))), (4, .ref (la k1)), (3, .ref mk), (2, .int (nI (2 + k3))), (1, .int (nI k1)), (0, .ref o)]) hx hb dX4_stretch_159 hl (k := 4) rfl (inc_1 _) (by decide) rfl (fun ls hl => ?_)
              refine lv_goto (tgt := 49) hx hb dX4_stretch_162 (by decide) ?_
              exact W.widen (by omega) (by omega) (hnext _ _ _ ⟨mk, adm, S, hS, lv_sub hl [0, 5, 6, 7, 8, 9, 10] rfl, (by omega), (by exact hil), (by first | exact st_y hR1 (by omega) (by omega) (by omega) hrep (by omega) | exact st_n hR1 (by omega) (by omega) (by omega) hrep (by omega)), (by exact hwk)⟩)
            · skip
              have c149 : ¬ (200 < stF (2 + k3) ((L k1).2.1 i)) := fun q9 => c149 ((nc_lt (a := 200) (b := stF (2 + k3) ((L k1).2.1 i)) (by omega) (by omega)).mpr q9)
              refine lv_aload_n hx hb dX4_stretch_152 rfl (lv_at hl 7 rfl) ?_
              refine lv_aload hx hb dX4_stretch_153 (lv_at hl 0 rfl) ?_
              obtain ⟨b3, hb3⟩ : ∃ z : Nat, z = H1.size := ⟨_, rfl⟩
              have lnb2_b3 : b2 < b3 := by have h8 := nb2.lt; omega
              have ln_b3 : s.heap.size ≤ b3 := by have h8 := hS.1; omega
              have lw_b3 : Hw.size ≤ b3 := by have h8 := kp_sz hwk; omega
              refine va_callr (va_runS (As := [.ref mk, .ref b2]) (rest := []) ⟨hx, hb, hml, hown, hts⟩ (conX4_with l D T b3 (o + 53) mk b2 (stF (2 + k3) ((L k1).2.1 i)) (min 200 (stT (2 + k3) ((L k1).2.2 i))) (fun k => adm k) S.1 S.2.1 S.2.2 (by omega) (by omega)) (va_cwS 2 hts gX4_stretch_X4_with rfl rfl rfl (by decide +kernel) ⟨Nat.le_of_ble_eq_true rfl, Nat.le_of_ble_eq_true rfl⟩) (preS hK ⟨hb3.symm, hil, nb2.outN (pr2_u _ _)⟩) rfl rfl hl.1 rfl (lv_room (Nat.le_of_ble_eq_true rfl)) dX4_stretch_155 ⟨by show _ ≤ 203; omega, by show _ ≤ 10504; omega⟩) hS (fun q _ h9 => (hA q (by have h8 : b3 ≤ q := h9; omega))) (fun q h9 => (hA q (by have h8 : b3 ≤ q := h9; omega))) (fun u ra t H1 locs1 ht hvm hw9 hB hz1 hk1 hS => ?_)
              try dsimp only at hB
              rw [ht] at hB
              obtain ⟨a6, rfl⟩ : ∃ z, z = ra := ⟨_, rfl⟩
              obtain ⟨hra, hz9, hil⟩ := hB
              subst hra
              replace hwk := fun (z : Nat) (hz : z < Hw.size) => (hk1 z (by omega) (fun h9 => by have h8 : a6 ≤ z := h9; omega)).trans (hwk z hz)
              refine lv_astore_n (lv' := [(3, .ref a6), (10, .ref b2), (9, .int (nI (stT (2 + k3) ((L k1).2.2 i)))), (8, .int (nI (stF (2 + k3) ((L k1).2.1 i)))), (7, .ref (ads1 i)), (6, .int (nI i)), (5, .int (nI ((L k1).1))), (4, .ref (la k1)), (2, .int (nI (2 + k3))), (1, .int (nI k1)), (0, .ref o)]) hx hb dX4_stretch_158 rfl hl (by decide) rfl (fun ls hl => ?_)
              refine lv_iinc (v := nI (i + 1)) (lv' := [(6, .int (nI (i + 1))), (3, .ref a6), (10, .ref b2), (9, .int (nI (stT (2 + k3) ((L k1).2.2 i)))), (8, .int (nI (stF (2 + k3) ((L k1).2.1 i)))), (7, .ref (ads1 i)), (5, .int (nI ((L k1).1))), (4, .ref (la k1)), (2, .int (nI (2 + k3))), (1, .int (nI k1)), (0, .ref o)]) hx hb dX4_stretch_159 hl (k := 5) rfl (inc_1 _) (by decide) rfl (fun ls hl => ?_)
              refine lv_goto (tgt := 49) hx hb dX4_stretch_162 (by decide) ?_
              exact W.widen (by omega) (by omega) (hnext _ _ _ ⟨a6, fun k => if k = S.1 then b2 else adm k, snocS S (stF (2 + k3) ((L k1).2.1 i)) (min 200 (stT (2 + k3) ((L k1).2.2 i))), hS, lv_sub hl [0, 6, 7, 1, 8, 9, 10] rfl, (by omega), (by exact hil), (by first | exact st_y hR1 (by omega) (by omega) (by omega) hrep (by omega) | exact st_n hR1 (by omega) (by omega) (by omega) hrep (by omega)), (by exact hwk)⟩)
          · skip
            have c99 : ((L k1).2.2 i) % 2 = 0 := (nc_eq (a := ((L k1).2.2 i) % 2) (b := 0) (by omega) (by omega)).mp c99
            refine lv_aload hx hb dX4_stretch_102 (lv_at hl 1 rfl) ?_
            refine lv_iconst (v := nI 1) hx hb dX4_stretch_104 (by decide) ?_
            refine q_iald hx hb hK ((hi1.old hwk).2 i (by omega)).2 1 (rfl) (by omega) (by decide) dX4_stretch_105 ?_
            refine W.eq (g2 := F0 m 106 ls [.int (nI ((L k1).2.2 i))]) rfl ?_
            refine lv_iload_n hx hb dX4_stretch_106 rfl (lv_at hl 6 rfl) ?_
            refine lv_imul hx hb dX4_stretch_107 ?_
            rw [pk_mul]
            refine lv_goto (tgt := 121) hx hb dX4_stretch_108 (by decide) ?_
            refine W.eq (congrArg (fun z9 => F0 m 121 ls [.int (nI z9)]) (stT_e (tt := 2 + k3) c99)) ?_
            refine lv_istore (lv' := [(9, .int (nI (stT (2 + k3) ((L k1).2.2 i)))), (8, .int (nI (stF (2 + k3) ((L k1).2.1 i)))), (7, .ref (ads1 i)), (6, .int (nI i)), (5, .int (nI ((L k1).1))), (4, .ref (la k1)), (3, .ref mk), (2, .int (nI (2 + k3))), (1, .int (nI k1)), (0, .ref o)]) hx hb dX4_stretch_121 hl (by decide) rfl (fun ls hl => ?_)
            refine lv_iconst (v := nI 2) hx hb dX4_stretch_123 (by decide) ?_
            have hlw9 := hil.low
            obtain ⟨b2, hb2⟩ : ∃ z : Nat, z = H.size := ⟨_, rfl⟩
            have ln_b2 : s.heap.size ≤ b2 := by have h8 := hS.1; omega
            have lw_b2 : Hw.size ≤ b2 := by have h8 := kp_sz hwk; omega
            refine q_newi hx hb (hts (.arrayClass .int) (by decide +kernel)) hK 2 rfl (by decide) (by show _ ≤ 203; omega) (by show _ ≤ 10504; omega) hS dX4_stretch_124 (fun H1 hw9 z1 o1 hS => ?_)
            rw [← hb2] at hw9 ⊢
            have nb2 := hw9
            have sb2 : H1.size = b2 + 1 := by omega
            replace hwk := fun (z : Nat) (hz : z < Hw.size) => (o1 z (by omega)).trans (hwk z hz)
            replace hil := hil.old o1
            refine lv_dup hx hb dX4_stretch_126 rfl ?_
            refine lv_iconst (v := nI 0) hx hb dX4_stretch_127 (by decide) ?_
            refine lv_iload hx hb dX4_stretch_128 (lv_at hl 1 rfl) ?_
            refine q_iast hx hb hK nb2 0 (rfl) (by omega) (by decide) hS (hA _ (by omega)) dX4_stretch_130 (fun H1 locs1 hw9 hz oq hS => ?_)
            have nb2 := hw9
            replace hwk := fun (z : Nat) (hz : z < Hw.size) => (oq z (by omega)).trans (hwk z hz)
            replace hil := hil.ne hlw9 (by omega) oq
            refine lv_dup hx hb dX4_stretch_131 rfl ?_
            refine lv_iconst (v := nI 1) hx hb dX4_stretch_132 (by decide) ?_
            refine lv_sipush (v := nI 200) hx hb dX4_stretch_133 (by decide) ?_
            refine lv_iload hx hb dX4_stretch_136 (lv_at hl 0 rfl) ?_
            refine va_mmin hx hb (hml.trans hl.1.symm) hown (hts (.methodLink RX4 66 Lib.Math.min.name) (by decide +kernel)) (hts (.static Lib.Math.min.name) (by decide +kernel)) (hts (.initialized "java/lang/Math") (by decide +kernel)) (hts (.code Lib.Math.min.name Lib.Math.min.code 2 (some .int)) (by decide +kernel)) (Nat.le_of_ble_eq_true rfl) (Nat.le_of_ble_eq_true rfl) (by show _ ≤ 203; omega) (by show _ ≤ 10504; omega) dX4_stretch_138 ?_
            refine W.eq (g2 := F0 m 141 ls [.int (jmin (nI 200) (nI (stT (2 + k3) ((L k1).2.2 i)))), .int (nI 1), .ref b2, .ref b2]) rfl ?_
            rw [jmin_nat (a := 200) (b := stT (2 + k3) ((L k1).2.2 i)) (by omega) (by omega)]
            refine q_iast hx hb hK nb2 1 (rfl) (by omega) (by decide) hS (hA _ (by omega)) dX4_stretch_141 (fun H1 locs1 hw9 hz oq hS => ?_)
            have nb2 := hw9
            replace hwk := fun (z : Nat) (hz : z < Hw.size) => (oq z (by omega)).trans (hwk z hz)
            replace hil := hil.ne hlw9 (by omega) oq
            refine lv_astore (lv' := [(10, .ref b2), (9, .int (nI (stT (2 + k3) ((L k1).2.2 i)))), (8, .int (nI (stF (2 + k3) ((L k1).2.1 i)))), (7, .ref (ads1 i)), (6, .int (nI i)), (5, .int (nI ((L k1).1))), (4, .ref (la k1)), (3, .ref mk), (2, .int (nI (2 + k3))), (1, .int (nI k1)), (0, .ref o)]) hx hb dX4_stretch_142 hl (by decide) rfl (fun ls hl => ?_)
            refine lv_iload hx hb dX4_stretch_144 (lv_at hl 2 rfl) ?_
            refine lv_sipush (v := nI 200) hx hb dX4_stretch_146 (by decide) ?_
            refine lv_icmp_gt (tgt := 159) hx hb dX4_stretch_149 (by decide) (fun c149 => ?_) (fun c149 => ?_)
            · skip
              have c149 : 200 < stF (2 + k3) ((L k1).2.1 i) := (nc_lt (a := 200) (b := stF (2 + k3) ((L k1).2.1 i)) (by omega) (by omega)).mp c149
              refine lv_iinc (v := nI (i + 1)) (lv' := [(6, .int (nI (i + 1))), (10, .ref b2), (9, .int (nI (stT (2 + k3) ((L k1).2.2 i)))), (8, .int (nI (stF (2 + k3) ((L k1).2.1 i)))), (7, .ref (ads1 i)), (5, .int (nI ((L k1).1))), (4, .ref (la k1)), (3, .ref mk), (2, .int (nI (2 + k3))), (1, .int (nI k1)), (0, .ref o)]) hx hb dX4_stretch_159 hl (k := 4) rfl (inc_1 _) (by decide) rfl (fun ls hl => ?_)
              refine lv_goto (tgt := 49) hx hb dX4_stretch_162 (by decide) ?_
              exact W.widen (by omega) (by omega) (hnext _ _ _ ⟨mk, adm, S, hS, lv_sub hl [0, 5, 6, 7, 8, 9, 10] rfl, (by omega), (by exact hil), (by first | exact st_y hR1 (by omega) (by omega) (by omega) hrep (by omega) | exact st_n hR1 (by omega) (by omega) (by omega) hrep (by omega)), (by exact hwk)⟩)
            · skip
              have c149 : ¬ (200 < stF (2 + k3) ((L k1).2.1 i)) := fun q9 => c149 ((nc_lt (a := 200) (b := stF (2 + k3) ((L k1).2.1 i)) (by omega) (by omega)).mpr q9)
              refine lv_aload_n hx hb dX4_stretch_152 rfl (lv_at hl 7 rfl) ?_
              refine lv_aload hx hb dX4_stretch_153 (lv_at hl 0 rfl) ?_
              obtain ⟨b3, hb3⟩ : ∃ z : Nat, z = H1.size := ⟨_, rfl⟩
              have lnb2_b3 : b2 < b3 := by have h8 := nb2.lt; omega
              have ln_b3 : s.heap.size ≤ b3 := by have h8 := hS.1; omega
              have lw_b3 : Hw.size ≤ b3 := by have h8 := kp_sz hwk; omega
              refine va_callr (va_runS (As := [.ref mk, .ref b2]) (rest := []) ⟨hx, hb, hml, hown, hts⟩ (conX4_with l D T b3 (o + 53) mk b2 (stF (2 + k3) ((L k1).2.1 i)) (min 200 (stT (2 + k3) ((L k1).2.2 i))) (fun k => adm k) S.1 S.2.1 S.2.2 (by omega) (by omega)) (va_cwS 2 hts gX4_stretch_X4_with rfl rfl rfl (by decide +kernel) ⟨Nat.le_of_ble_eq_true rfl, Nat.le_of_ble_eq_true rfl⟩) (preS hK ⟨hb3.symm, hil, nb2.outN (pr2_u _ _)⟩) rfl rfl hl.1 rfl (lv_room (Nat.le_of_ble_eq_true rfl)) dX4_stretch_155 ⟨by show _ ≤ 203; omega, by show _ ≤ 10504; omega⟩) hS (fun q _ h9 => (hA q (by have h8 : b3 ≤ q := h9; omega))) (fun q h9 => (hA q (by have h8 : b3 ≤ q := h9; omega))) (fun u ra t H1 locs1 ht hvm hw9 hB hz1 hk1 hS => ?_)
              try dsimp only at hB
              rw [ht] at hB
              obtain ⟨a7, rfl⟩ : ∃ z, z = ra := ⟨_, rfl⟩
              obtain ⟨hra, hz9, hil⟩ := hB
              subst hra
              replace hwk := fun (z : Nat) (hz : z < Hw.size) => (hk1 z (by omega) (fun h9 => by have h8 : a7 ≤ z := h9; omega)).trans (hwk z hz)
              refine lv_astore_n (lv' := [(3, .ref a7), (10, .ref b2), (9, .int (nI (stT (2 + k3) ((L k1).2.2 i)))), (8, .int (nI (stF (2 + k3) ((L k1).2.1 i)))), (7, .ref (ads1 i)), (6, .int (nI i)), (5, .int (nI ((L k1).1))), (4, .ref (la k1)), (2, .int (nI (2 + k3))), (1, .int (nI k1)), (0, .ref o)]) hx hb dX4_stretch_158 rfl hl (by decide) rfl (fun ls hl => ?_)
              refine lv_iinc (v := nI (i + 1)) (lv' := [(6, .int (nI (i + 1))), (3, .ref a7), (10, .ref b2), (9, .int (nI (stT (2 + k3) ((L k1).2.2 i)))), (8, .int (nI (stF (2 + k3) ((L k1).2.1 i)))), (7, .ref (ads1 i)), (5, .int (nI ((L k1).1))), (4, .ref (la k1)), (2, .int (nI (2 + k3))), (1, .int (nI k1)), (0, .ref o)]) hx hb dX4_stretch_159 hl (k := 5) rfl (inc_1 _) (by decide) rfl (fun ls hl => ?_)
              refine lv_goto (tgt := 49) hx hb dX4_stretch_162 (by decide) ?_
              exact W.widen (by omega) (by omega) (hnext _ _ _ ⟨a7, fun k => if k = S.1 then b2 else adm k, snocS S (stF (2 + k3) ((L k1).2.1 i)) (min 200 (stT (2 + k3) ((L k1).2.2 i))), hS, lv_sub hl [0, 6, 7, 1, 8, 9, 10] rfl, (by omega), (by exact hil), (by first | exact st_y hR1 (by omega) (by omega) (by omega) hrep (by omega) | exact st_n hR1 (by omega) (by omega) (by omega) hrep (by omega)), (by exact hwk)⟩)
        · skip
          have c69 : ((L k1).2.1 i) % 2 = 0 := (nc_eq (a := ((L k1).2.1 i) % 2) (b := 0) (by omega) (by omega)).mp c69
          refine lv_aload hx hb dX4_stretch_72 (lv_at hl 0 rfl) ?_
          refine lv_iconst (v := nI 0) hx hb dX4_stretch_74 (by decide) ?_
          refine q_iald hx hb hK ((hi1.old hwk).2 i (by omega)).2 0 (rfl) (by omega) (by decide) dX4_stretch_75 ?_
          refine W.eq (g2 := F0 m 76 ls [.int (nI ((L k1).2.1 i))]) rfl ?_
          refine lv_iload_n hx hb dX4_stretch_76 rfl (lv_at hl 5 rfl) ?_
          refine lv_imul hx hb dX4_stretch_77 ?_
          rw [pk_mul]
          refine lv_goto (tgt := 91) hx hb dX4_stretch_78 (by decide) ?_
          refine W.eq (congrArg (fun z9 => F0 m 91 ls [.int (nI z9)]) (stF_e (tt := 2 + k3) c69)) ?_
          refine lv_istore (lv' := [(8, .int (nI (stF (2 + k3) ((L k1).2.1 i)))), (7, .ref (ads1 i)), (6, .int (nI i)), (5, .int (nI ((L k1).1))), (4, .ref (la k1)), (3, .ref mk), (2, .int (nI (2 + k3))), (1, .int (nI k1)), (0, .ref o)]) hx hb dX4_stretch_91 hl (by decide) rfl (fun ls hl => ?_)
          refine lv_aload hx hb dX4_stretch_93 (lv_at hl 1 rfl) ?_
          refine lv_iconst (v := nI 1) hx hb dX4_stretch_95 (by decide) ?_
          refine q_iald hx hb hK ((hi1.old hwk).2 i (by omega)).2 1 (rfl) (by omega) (by decide) dX4_stretch_96 ?_
          refine W.eq (g2 := F0 m 97 ls [.int (nI ((L k1).2.2 i))]) rfl ?_
          refine lv_iconst (v := nI 2) hx hb dX4_stretch_97 (by decide) ?_
          refine lv_irem hx hb dX4_stretch_98 (by decide) ?_
          rw [pk_rem (a := (L k1).2.2 i) (d := 2) (by omega) (by omega) (by omega)]
          refine lv_if_ne (tgt := 111) hx hb dX4_stretch_99 (by decide) (fun c99 => ?_) (fun c99 => ?_)
          · skip
            have c99 : ¬ (((L k1).2.2 i) % 2 = 0) := fun q9 => c99 ((nc_eq (a := ((L k1).2.2 i) % 2) (b := 0) (by omega) (by omega)).mpr q9)
            refine lv_aload hx hb dX4_stretch_111 (lv_at hl 1 rfl) ?_
            refine lv_iconst (v := nI 1) hx hb dX4_stretch_113 (by decide) ?_
            refine q_iald hx hb hK ((hi1.old hwk).2 i (by omega)).2 1 (rfl) (by omega) (by decide) dX4_stretch_114 ?_
            refine W.eq (g2 := F0 m 115 ls [.int (nI ((L k1).2.2 i))]) rfl ?_
            refine lv_iconst (v := nI 1) hx hb dX4_stretch_115 (by decide) ?_
            refine lv_iadd hx hb dX4_stretch_116 ?_
            rw [nI_add]
            refine lv_iload_n hx hb dX4_stretch_117 rfl (lv_at hl 6 rfl) ?_
            refine lv_imul hx hb dX4_stretch_118 ?_
            rw [pk_mul]
            refine lv_iconst (v := nI 1) hx hb dX4_stretch_119 (by decide) ?_
            refine lv_isub hx hb dX4_stretch_120 ?_
            rw [pk_sub (a := (((L k1).2.2 i) + 1) * (2 + k3)) (b := 1) (by omega)]
            refine W.eq (congrArg (fun z9 => F0 m 121 ls [.int (nI z9)]) (stT_o (tt := 2 + k3) c99)) ?_
            refine lv_istore (lv' := [(9, .int (nI (stT (2 + k3) ((L k1).2.2 i)))), (8, .int (nI (stF (2 + k3) ((L k1).2.1 i)))), (7, .ref (ads1 i)), (6, .int (nI i)), (5, .int (nI ((L k1).1))), (4, .ref (la k1)), (3, .ref mk), (2, .int (nI (2 + k3))), (1, .int (nI k1)), (0, .ref o)]) hx hb dX4_stretch_121 hl (by decide) rfl (fun ls hl => ?_)
            refine lv_iconst (v := nI 2) hx hb dX4_stretch_123 (by decide) ?_
            have hlw9 := hil.low
            obtain ⟨b2, hb2⟩ : ∃ z : Nat, z = H.size := ⟨_, rfl⟩
            have ln_b2 : s.heap.size ≤ b2 := by have h8 := hS.1; omega
            have lw_b2 : Hw.size ≤ b2 := by have h8 := kp_sz hwk; omega
            refine q_newi hx hb (hts (.arrayClass .int) (by decide +kernel)) hK 2 rfl (by decide) (by show _ ≤ 203; omega) (by show _ ≤ 10504; omega) hS dX4_stretch_124 (fun H1 hw9 z1 o1 hS => ?_)
            rw [← hb2] at hw9 ⊢
            have nb2 := hw9
            have sb2 : H1.size = b2 + 1 := by omega
            replace hwk := fun (z : Nat) (hz : z < Hw.size) => (o1 z (by omega)).trans (hwk z hz)
            replace hil := hil.old o1
            refine lv_dup hx hb dX4_stretch_126 rfl ?_
            refine lv_iconst (v := nI 0) hx hb dX4_stretch_127 (by decide) ?_
            refine lv_iload hx hb dX4_stretch_128 (lv_at hl 1 rfl) ?_
            refine q_iast hx hb hK nb2 0 (rfl) (by omega) (by decide) hS (hA _ (by omega)) dX4_stretch_130 (fun H1 locs1 hw9 hz oq hS => ?_)
            have nb2 := hw9
            replace hwk := fun (z : Nat) (hz : z < Hw.size) => (oq z (by omega)).trans (hwk z hz)
            replace hil := hil.ne hlw9 (by omega) oq
            refine lv_dup hx hb dX4_stretch_131 rfl ?_
            refine lv_iconst (v := nI 1) hx hb dX4_stretch_132 (by decide) ?_
            refine lv_sipush (v := nI 200) hx hb dX4_stretch_133 (by decide) ?_
            refine lv_iload hx hb dX4_stretch_136 (lv_at hl 0 rfl) ?_
            refine va_mmin hx hb (hml.trans hl.1.symm) hown (hts (.methodLink RX4 66 Lib.Math.min.name) (by decide +kernel)) (hts (.static Lib.Math.min.name) (by decide +kernel)) (hts (.initialized "java/lang/Math") (by decide +kernel)) (hts (.code Lib.Math.min.name Lib.Math.min.code 2 (some .int)) (by decide +kernel)) (Nat.le_of_ble_eq_true rfl) (Nat.le_of_ble_eq_true rfl) (by show _ ≤ 203; omega) (by show _ ≤ 10504; omega) dX4_stretch_138 ?_
            refine W.eq (g2 := F0 m 141 ls [.int (jmin (nI 200) (nI (stT (2 + k3) ((L k1).2.2 i)))), .int (nI 1), .ref b2, .ref b2]) rfl ?_
            rw [jmin_nat (a := 200) (b := stT (2 + k3) ((L k1).2.2 i)) (by omega) (by omega)]
            refine q_iast hx hb hK nb2 1 (rfl) (by omega) (by decide) hS (hA _ (by omega)) dX4_stretch_141 (fun H1 locs1 hw9 hz oq hS => ?_)
            have nb2 := hw9
            replace hwk := fun (z : Nat) (hz : z < Hw.size) => (oq z (by omega)).trans (hwk z hz)
            replace hil := hil.ne hlw9 (by omega) oq
            refine lv_astore (lv' := [(10, .ref b2), (9, .int (nI (stT (2 + k3) ((L k1).2.2 i)))), (8, .int (nI (stF (2 + k3) ((L k1).2.1 i)))), (7, .ref (ads1 i)), (6, .int (nI i)), (5, .int (nI ((L k1).1))), (4, .ref (la k1)), (3, .ref mk), (2, .int (nI (2 + k3))), (1, .int (nI k1)), (0, .ref o)]) hx hb dX4_stretch_142 hl (by decide) rfl (fun ls hl => ?_)
            refine lv_iload hx hb dX4_stretch_144 (lv_at hl 2 rfl) ?_
            refine lv_sipush (v := nI 200) hx hb dX4_stretch_146 (by decide) ?_
            refine lv_icmp_gt (tgt := 159) hx hb dX4_stretch_149 (by decide) (fun c149 => ?_) (fun c149 => ?_)
            · skip
              have c149 : 200 < stF (2 + k3) ((L k1).2.1 i) := (nc_lt (a := 200) (b := stF (2 + k3) ((L k1).2.1 i)) (by omega) (by omega)).mp c149
              refine lv_iinc (v := nI (i + 1)) (lv' := [(6, .int (nI (i + 1))), (10, .ref b2), (9, .int (nI (stT (2 + k3) ((L k1).2.2 i)))), (8, .int (nI (stF (2 + k3) ((L k1).2.1 i)))), (7, .ref (ads1 i)), (5, .int (nI ((L k1).1))), (4, .ref (la k1)), (3, .ref mk), (2, .int (nI (2 + k3))), (1, .int (nI k1)), (0, .ref o)]) hx hb dX4_stretch_159 hl (k := 4) rfl (inc_1 _) (by decide) rfl (fun ls hl => ?_)
              refine lv_goto (tgt := 49) hx hb dX4_stretch_162 (by decide) ?_
              exact W.widen (by omega) (by omega) (hnext _ _ _ ⟨mk, adm, S, hS, lv_sub hl [0, 5, 6, 7, 8, 9, 10] rfl, (by omega), (by exact hil), (by first | exact st_y hR1 (by omega) (by omega) (by omega) hrep (by omega) | exact st_n hR1 (by omega) (by omega) (by omega) hrep (by omega)), (by exact hwk)⟩)
            · skip
              have c149 : ¬ (200 < stF (2 + k3) ((L k1).2.1 i)) := fun q9 => c149 ((nc_lt (a := 200) (b := stF (2 + k3) ((L k1).2.1 i)) (by omega) (by omega)).mpr q9)
              refine lv_aload_n hx hb dX4_stretch_152 rfl (lv_at hl 7 rfl) ?_
              refine lv_aload hx hb dX4_stretch_153 (lv_at hl 0 rfl) ?_
              obtain ⟨b3, hb3⟩ : ∃ z : Nat, z = H1.size := ⟨_, rfl⟩
              have lnb2_b3 : b2 < b3 := by have h8 := nb2.lt; omega
              have ln_b3 : s.heap.size ≤ b3 := by have h8 := hS.1; omega
              have lw_b3 : Hw.size ≤ b3 := by have h8 := kp_sz hwk; omega
              refine va_callr (va_runS (As := [.ref mk, .ref b2]) (rest := []) ⟨hx, hb, hml, hown, hts⟩ (conX4_with l D T b3 (o + 53) mk b2 (stF (2 + k3) ((L k1).2.1 i)) (min 200 (stT (2 + k3) ((L k1).2.2 i))) (fun k => adm k) S.1 S.2.1 S.2.2 (by omega) (by omega)) (va_cwS 2 hts gX4_stretch_X4_with rfl rfl rfl (by decide +kernel) ⟨Nat.le_of_ble_eq_true rfl, Nat.le_of_ble_eq_true rfl⟩) (preS hK ⟨hb3.symm, hil, nb2.outN (pr2_u _ _)⟩) rfl rfl hl.1 rfl (lv_room (Nat.le_of_ble_eq_true rfl)) dX4_stretch_155 ⟨by show _ ≤ 203; omega, by show _ ≤ 10504; omega⟩) hS (fun q _ h9 => (hA q (by have h8 : b3 ≤ q := h9; omega))) (fun q h9 => (hA q (by have h8 : b3 ≤ q := h9; omega))) (fun u ra t H1 locs1 ht hvm hw9 hB hz1 hk1 hS => ?_)
              try dsimp only at hB
              rw [ht] at hB
              obtain ⟨a8, rfl⟩ : ∃ z, z = ra := ⟨_, rfl⟩
              obtain ⟨hra, hz9, hil⟩ := hB
              subst hra
              replace hwk := fun (z : Nat) (hz : z < Hw.size) => (hk1 z (by omega) (fun h9 => by have h8 : a8 ≤ z := h9; omega)).trans (hwk z hz)
              refine lv_astore_n (lv' := [(3, .ref a8), (10, .ref b2), (9, .int (nI (stT (2 + k3) ((L k1).2.2 i)))), (8, .int (nI (stF (2 + k3) ((L k1).2.1 i)))), (7, .ref (ads1 i)), (6, .int (nI i)), (5, .int (nI ((L k1).1))), (4, .ref (la k1)), (2, .int (nI (2 + k3))), (1, .int (nI k1)), (0, .ref o)]) hx hb dX4_stretch_158 rfl hl (by decide) rfl (fun ls hl => ?_)
              refine lv_iinc (v := nI (i + 1)) (lv' := [(6, .int (nI (i + 1))), (3, .ref a8), (10, .ref b2), (9, .int (nI (stT (2 + k3) ((L k1).2.2 i)))), (8, .int (nI (stF (2 + k3) ((L k1).2.1 i)))), (7, .ref (ads1 i)), (5, .int (nI ((L k1).1))), (4, .ref (la k1)), (2, .int (nI (2 + k3))), (1, .int (nI k1)), (0, .ref o)]) hx hb dX4_stretch_159 hl (k := 5) rfl (inc_1 _) (by decide) rfl (fun ls hl => ?_)
              refine lv_goto (tgt := 49) hx hb dX4_stretch_162 (by decide) ?_
              exact W.widen (by omega) (by omega) (hnext _ _ _ ⟨a8, fun k => if k = S.1 then b2 else adm k, snocS S (stF (2 + k3) ((L k1).2.1 i)) (min 200 (stT (2 + k3) ((L k1).2.2 i))), hS, lv_sub hl [0, 6, 7, 1, 8, 9, 10] rfl, (by omega), (by exact hil), (by first | exact st_y hR1 (by omega) (by omega) (by omega) hrep (by omega) | exact st_n hR1 (by omega) (by omega) (by omega) hrep (by omega)), (by exact hwk)⟩)
          · skip
            have c99 : ((L k1).2.2 i) % 2 = 0 := (nc_eq (a := ((L k1).2.2 i) % 2) (b := 0) (by omega) (by omega)).mp c99
            refine lv_aload hx hb dX4_stretch_102 (lv_at hl 1 rfl) ?_
            refine lv_iconst (v := nI 1) hx hb dX4_stretch_104 (by decide) ?_
            refine q_iald hx hb hK ((hi1.old hwk).2 i (by omega)).2 1 (rfl) (by omega) (by decide) dX4_stretch_105 ?_
            refine W.eq (g2 := F0 m 106 ls [.int (nI ((L k1).2.2 i))]) rfl ?_
            refine lv_iload_n hx hb dX4_stretch_106 rfl (lv_at hl 6 rfl) ?_
            refine lv_imul hx hb dX4_stretch_107 ?_
            rw [pk_mul]
            refine lv_goto (tgt := 121) hx hb dX4_stretch_108 (by decide) ?_
            refine W.eq (congrArg (fun z9 => F0 m 121 ls [.int (nI z9)]) (stT_e (tt := 2 + k3) c99)) ?_
            refine lv_istore (lv' := [(9, .int (nI (stT (2 + k3) ((L k1).2.2 i)))), (8, .int (nI (stF (2 + k3) ((L k1).2.1 i)))), (7, .ref (ads1 i)), (6, .int (nI i)), (5, .int (nI ((L k1).1))), (4, .ref (la k1)), (3, .ref mk), (2, .int (nI (2 + k3))), (1, .int (nI k1)), (0, .ref o)]) hx hb dX4_stretch_121 hl (by decide) rfl (fun ls hl => ?_)
            refine lv_iconst (v := nI 2) hx hb dX4_stretch_123 (by decide) ?_
            have hlw9 := hil.low
            obtain ⟨b2, hb2⟩ : ∃ z : Nat, z = H.size := ⟨_, rfl⟩
            have ln_b2 : s.heap.size ≤ b2 := by have h8 := hS.1; omega
            have lw_b2 : Hw.size ≤ b2 := by have h8 := kp_sz hwk; omega
            refine q_newi hx hb (hts (.arrayClass .int) (by decide +kernel)) hK 2 rfl (by decide) (by show _ ≤ 203; omega) (by show _ ≤ 10504; omega) hS dX4_stretch_124 (fun H1 hw9 z1 o1 hS => ?_)
            rw [← hb2] at hw9 ⊢
            have nb2 := hw9
            have sb2 : H1.size = b2 + 1 := by omega
            replace hwk := fun (z : Nat) (hz : z < Hw.size) => (o1 z (by omega)).trans (hwk z hz)
            replace hil := hil.old o1
            refine lv_dup hx hb dX4_stretch_126 rfl ?_
            refine lv_iconst (v := nI 0) hx hb dX4_stretch_127 (by decide) ?_
            refine lv_iload hx hb dX4_stretch_128 (lv_at hl 1 rfl) ?_
            refine q_iast hx hb hK nb2 0 (rfl) (by omega) (by decide) hS (hA _ (by omega)) dX4_stretch_130 (fun H1 locs1 hw9 hz oq hS => ?_)
            have nb2 := hw9
            replace hwk := fun (z : Nat) (hz : z < Hw.size) => (oq z (by omega)).trans (hwk z hz)
            replace hil := hil.ne hlw9 (by omega) oq
            refine lv_dup hx hb dX4_stretch_131 rfl ?_
            refine lv_iconst (v := nI 1) hx hb dX4_stretch_132 (by decide) ?_
            refine lv_sipush (v := nI 200) hx hb dX4_stretch_133 (by decide) ?_
            refine lv_iload hx hb dX4_stretch_136 (lv_at hl 0 rfl) ?_
            refine va_mmin hx hb (hml.trans hl.1.symm) hown (hts (.methodLink RX4 66 Lib.Math.min.name) (by decide +kernel)) (hts (.static Lib.Math.min.name) (by decide +kernel)) (hts (.initialized "java/lang/Math") (by decide +kernel)) (hts (.code Lib.Math.min.name Lib.Math.min.code 2 (some .int)) (by decide +kernel)) (Nat.le_of_ble_eq_true rfl) (Nat.le_of_ble_eq_true rfl) (by show _ ≤ 203; omega) (by show _ ≤ 10504; omega) dX4_stretch_138 ?_
            refine W.eq (g2 := F0 m 141 ls [.int (jmin (nI 200) (nI (stT (2 + k3) ((L k1).2.2 i)))), .int (nI 1), .ref b2, .ref b2]) rfl ?_
            rw [jmin_nat (a := 200) (b := stT (2 + k3) ((L k1).2.2 i)) (by omega) (by omega)]
            refine q_iast hx hb hK nb2 1 (rfl) (by omega) (by decide) hS (hA _ (by omega)) dX4_stretch_141 (fun H1 locs1 hw9 hz oq hS => ?_)
            have nb2 := hw9
            replace hwk := fun (z : Nat) (hz : z < Hw.size) => (oq z (by omega)).trans (hwk z hz)
            replace hil := hil.ne hlw9 (by omega) oq
            refine lv_astore (lv' := [(10, .ref b2), (9, .int (nI (stT (2 + k3) ((L k1).2.2 i)))), (8, .int (nI (stF (2 + k3) ((L k1).2.1 i)))), (7, .ref (ads1 i)), (6, .int (nI i)), (5, .int (nI ((L k1).1))), (4, .ref (la k1)), (3, .ref mk), (2, .int (nI (2 + k3))), (1, .int (nI k1)), (0, .ref o)]) hx hb dX4_stretch_142 hl (by decide) rfl (fun ls hl => ?_)
            refine lv_iload hx hb dX4_stretch_144 (lv_at hl 2 rfl) ?_
            refine lv_sipush (v := nI 200) hx hb dX4_stretch_146 (by decide) ?_
            refine lv_icmp_gt (tgt := 159) hx hb dX4_stretch_149 (by decide) (fun c149 => ?_) (fun c149 => ?_)
            · skip
              have c149 : 200 < stF (2 + k3) ((L k1).2.1 i) := (nc_lt (a := 200) (b := stF (2 + k3) ((L k1).2.1 i)) (by omega) (by omega)).mp c149
              refine lv_iinc (v := nI (i + 1)) (lv' := [(6, .int (nI (i + 1))), (10, .ref b2), (9, .int (nI (stT (2 + k3) ((L k1).2.2 i)))), (8, .int (nI (stF (2 + k3) ((L k1).2.1 i)))), (7, .ref (ads1 i)), (5, .int (nI ((L k1).1))), (4, .ref (la k1)), (3, .ref mk), (2, .int (nI (2 + k3))), (1, .int (nI k1)), (0, .ref o)]) hx hb dX4_stretch_159 hl (k := 4) rfl (inc_1 _) (by decide) rfl (fun ls hl => ?_)
              refine lv_goto (tgt := 49) hx hb dX4_stretch_162 (by decide) ?_
              exact W.widen (by omega) (by omega) (hnext _ _ _ ⟨mk, adm, S, hS, lv_sub hl [0, 5, 6, 7, 8, 9, 10] rfl, (by omega), (by exact hil), (by first | exact st_y hR1 (by omega) (by omega) (by omega) hrep (by omega) | exact st_n hR1 (by omega) (by omega) (by omega) hrep (by omega)), (by exact hwk)⟩)
            · skip
              have c149 : ¬ (200 < stF (2 + k3) ((L k1).2.1 i)) := fun q9 => c149 ((nc_lt (a := 200) (b := stF (2 + k3) ((L k1).2.1 i)) (by omega) (by omega)).mpr q9)
              refine lv_aload_n hx hb dX4_stretch_152 rfl (lv_at hl 7 rfl) ?_
              refine lv_aload hx hb dX4_stretch_153 (lv_at hl 0 rfl) ?_
              obtain ⟨b3, hb3⟩ : ∃ z : Nat, z = H1.size := ⟨_, rfl⟩
              have lnb2_b3 : b2 < b3 := by have h8 := nb2.lt; omega
              have ln_b3 : s.heap.size ≤ b3 := by have h8 := hS.1; omega
              have lw_b3 : Hw.size ≤ b3 := by have h8 := kp_sz hwk; omega
              refine va_callr (va_runS (As := [.ref mk, .ref b2]) (rest := []) ⟨hx, hb, hml, hown, hts⟩ (conX4_with l D T b3 (o + 53) mk b2 (stF (2 + k3) ((L k1).2.1 i)) (min 200 (stT (2 + k3) ((L k1).2.2 i))) (fun k => adm k) S.1 S.2.1 S.2.2 (by omega) (by omega)) (va_cwS 2 hts gX4_stretch_X4_with rfl rfl rfl (by decide +kernel) ⟨Nat.le_of_ble_eq_true rfl, Nat.le_of_ble_eq_true rfl⟩) (preS hK ⟨hb3.symm, hil, nb2.outN (pr2_u _ _)⟩) rfl rfl hl.1 rfl (lv_room (Nat.le_of_ble_eq_true rfl)) dX4_stretch_155 ⟨by show _ ≤ 203; omega, by show _ ≤ 10504; omega⟩) hS (fun q _ h9 => (hA q (by have h8 : b3 ≤ q := h9; omega))) (fun q h9 => (hA q (by have h8 : b3 ≤ q := h9; omega))) (fun u ra t H1 locs1 ht hvm hw9 hB hz1 hk1 hS => ?_)
              try dsimp only at hB
              rw [ht] at hB
              obtain ⟨a9, rfl⟩ : ∃ z, z = ra := ⟨_, rfl⟩
              obtain ⟨hra, hz9, hil⟩ := hB
              subst hra
              replace hwk := fun (z : Nat) (hz : z < Hw.size) => (hk1 z (by omega) (fun h9 => by have h8 : a9 ≤ z := h9; omega)).trans (hwk z hz)
              refine lv_astore_n (lv' := [(3, .ref a9), (10, .ref b2), (9, .int (nI (stT (2 + k3) ((L k1).2.2 i)))), (8, .int (nI (stF (2 + k3) ((L k1).2.1 i)))), (7, .ref (ads1 i)), (6, .int (nI i)), (5, .int (nI ((L k1).1))), (4, .ref (la k1)), (2, .int (nI (2 + k3))), (1, .int (nI k1)), (0, .ref o)]) hx hb dX4_stretch_158 rfl hl (by decide) rfl (fun ls hl => ?_)
              refine lv_iinc (v := nI (i + 1)) (lv' := [(6, .int (nI (i + 1))), (3, .ref a9), (10, .ref b2), (9, .int (nI (stT (2 + k3) ((L k1).2.2 i)))), (8, .int (nI (stF (2 + k3) ((L k1).2.1 i)))), (7, .ref (ads1 i)), (5, .int (nI ((L k1).1))), (4, .ref (la k1)), (2, .int (nI (2 + k3))), (1, .int (nI k1)), (0, .ref o)]) hx hb dX4_stretch_159 hl (k := 5) rfl (inc_1 _) (by decide) rfl (fun ls hl => ?_)
              refine lv_goto (tgt := 49) hx hb dX4_stretch_162 (by decide) ?_
              exact W.widen (by omega) (by omega) (hnext _ _ _ ⟨a9, fun k => if k = S.1 then b2 else adm k, snocS S (stF (2 + k3) ((L k1).2.1 i)) (min 200 (stT (2 + k3) ((L k1).2.2 i))), hS, lv_sub hl [0, 6, 7, 1, 8, 9, 10] rfl, (by omega), (by exact hil), (by first | exact st_y hR1 (by omega) (by omega) (by omega) hrep (by omega) | exact st_n hR1 (by omega) (by omega) (by omega) hrep (by omega)), (by exact hwk)⟩)
    · skip
      intro H locs ls hin9
      obtain ⟨mk, adm, S, hS, hl, hmk, hil, hrep, hwk⟩ := hin9
      have hle9 := hrep.1.le
      refine lv_iload hx hb dX4_stretch_49 (lv_at hl 0 rfl) ?_
      refine lv_iload hx hb dX4_stretch_51 (lv_at hl 1 rfl) ?_
      refine lv_icmp_ge (tgt := 165) hx hb dX4_stretch_53 (by decide) (fun c53 => ?_) (fun c53 => ?_)
      · skip
        have c53 : (L k1).1 ≤ (L k1).1 := (nc_le (a := (L k1).1) (b := (L k1).1) (by omega) (by omega)).mp c53
        replace hrep := st_e hR1 (by omega) (by omega) hrep
        refine lv_aload_n hx hb dX4_stretch_165 rfl (lv_at hl 6 rfl) ?_
        refine q_get (v := .ref (o + 38)) hx hb hts hin4 hown hK (hw.ob.kept (hwk _ hw.ob.lt)) rfl 3 (by decide) (hts (.fieldLink RX4 18 "PuddingstoneLineLaw$Stones" "sets" "[[[I") (by decide +kernel)) (fun _ h9 => h9) rfl dX4_stretch_166 ?_
        refine lv_iload_n hx hb dX4_stretch_169 rfl (lv_at hl 5 rfl) ?_
        refine lv_aload_n hx hb dX4_stretch_170 rfl (lv_at hl 3 rfl) ?_
        refine q_aastq hx hb hK (hw.ss.kept (hwk _ hw.ss.lt)) hil.1 k1 rfl (by omega) (by decide) hS (hA _ (by omega)) dX4_stretch_171 (fun H1 locs1 hw9 hz oq hS => ?_)
        replace hw := (hw.old hwk).setL (k := k1) (m := mk) (S := S) (by omega) hrep.1.le ⟨_, hil.wk (by omega)⟩ hw9 oq
        replace hil := hil.up (m := o + 53) (by omega) (by omega) (fun z h8 h7 => oq z (by omega))
        refine lv_aload_n hx hb dX4_stretch_172 rfl (lv_at hl 6 rfl) ?_
        refine q_get (v := .ref (ad 0)) hx hb hts hin4 hown hK hw.ob rfl 0 (by decide) (hts (.fieldLink RX4 10 "PuddingstoneLineLaw$Stones" "m" "LPuddingstoneLine;") (by decide +kernel)) (fun _ h9 => h9) rfl dX4_stretch_173 ?_
        refine lv_iload_n hx hb dX4_stretch_176 rfl (lv_at hl 5 rfl) ?_
        refine lv_iload_n hx hb dX4_stretch_177 rfl (lv_at hl 4 rfl) ?_
        refine va_calli (va_runV (As := [.int (nI k1), .int (nI (2 + k3))]) (rest := []) ⟨hx, hb, hml, hown, hts⟩ (conX3_stretch l D T ad F V sr C k1 (2 + k3) (by omega) (by omega) (by omega)) (cwV 2 hts gX4_stretch_X3_stretch rfl rfl rfl (by decide +kernel) ⟨Nat.le_of_ble_eq_true rfl, Nat.le_of_ble_eq_true rfl⟩) (preV hK hw.pl.o rfl hw.pl) rfl rfl hl.1 rfl (lv_room (Nat.le_of_ble_eq_true rfl)) dX4_stretch_178 ⟨by show _ ≤ 203; omega, by show _ ≤ 10504; omega⟩) hS (fun q _ h9 => (by obtain ⟨i9, h8, rfl⟩ := h9; exact hA _ (by have := hw.1 i9 h8; omega))) (fun q h9 => (by obtain ⟨i9, h8, rfl⟩ := h9; exact hA _ (by have := hw.1 i9 h8; omega))) (fun r u t H1 locs1 ht hvm hw9 hB hz1 hk1 hS => ?_)
        try dsimp only at hB
        rw [ht] at hB
        rw [hw9]
        replace hil := hil.up (m := o + 53) (by omega) (by omega) (fun z h8 h7 => hk1 z h7 (fun ⟨i9, h6, h5⟩ => by have := hw.1 i9 h6; omega))
        replace hw := hw.setP hB (fun q h1 h2 => hk1 q h1 h2)
        refine lv_aload_n hx hb dX4_stretch_181 rfl (lv_at hl 3 rfl) ?_
        refine vp_callSi (va_runS (As := [.ref mk]) (rest := [.int (cntZ (strZ (va_up F 8 (copyZ (F 8) (F k1) 201)) k1 (2 + k3) 201) 201)]) ⟨hx, hb, hml, hown, hts⟩ (conX4_count l D T (o + 53) mk (fun k => adm k) S.1 S.2.1 S.2.2 (fun k hk => hrep.sp hk) hrep.1.le) (va_cwS 1 hts gX4_stretch_X4_count rfl rfl rfl (by decide +kernel) ⟨Nat.le_of_ble_eq_true rfl, Nat.le_of_ble_eq_true rfl⟩) (preS hK hil) rfl rfl hl.1 rfl (lv_room (Nat.le_of_ble_eq_true rfl)) dX4_stretch_182 ⟨by show _ ≤ 203; omega, by show _ ≤ 10504; omega⟩).run (fun r10 hr10 => ?_)
        rw [hr10]
        have hrp := str_rep F (show k1 < 8 by omega) (show 2 ≤ 2 + k3 by omega) (show 2 + k3 ≤ 10 by omega) hrep
        have hans := ans_cnt hrp
        refine lv_icmp_ne (tgt := 192) hx hb dX4_stretch_185 (by decide) (fun c185 => ?_) (fun c185 => ?_)
        · skip
          exact absurd hans c185
        · skip
          refine lv_iconst (v := nI 1) hx hb dX4_stretch_188 (by decide) ?_
          refine lv_goto (tgt := 193) hx hb dX4_stretch_189 (by decide) ?_
          refine W.widen (k := 203) (n := 10504) (by first | omega | decide) (by first | omega | decide) ?_
          exact W.zret (v := nI 1) hx hb hr (rfl) (fun t ht _ => ⟨⟨nI 1, (), rfl, by rfl, by dsimp only; rw [ht]; exact ⟨_, _, _, _, _, _, _, _, _, by omega, (by have h8 := hS.1; omega), hw, hinv.put hinv.1 up_ne8 (by rw [va_up_s]; exact hrp)⟩⟩, hS.F ht⟩) hS.2.2 dX4_stretch_193
      · skip
        have c53 : ¬ ((L k1).1 ≤ (L k1).1) := fun q9 => c53 ((nc_le (a := (L k1).1) (b := (L k1).1) (by omega) (by omega)).mpr q9)
        omega
