/-! STONES: MOVE -/
set_option maxHeartbeats 4000000 in
set_option maxRecDepth 100000 in
theorem conX4_move (l : Launch) (D : va_G) (T : Nat → ClassId) (ad : Nat → Nat) (o sc N : Nat) (sf : Nat → Int32) (d : Nat) (hN : N < 2 ^ 30) (hd : d + 20 < 2 ^ 30) : Met l yX4_move wsX4_move ({ frames := 3, cells := 203, slots := 10504, locals := 109 }) (cP D T [.ref o] (fun H => ST D T ad o sc N sf d H)) (va_Qi (fun (r : Int32) (_ : Unit) => r = nI 1) (fun _ t => ST D T ad o sc N sf (d + 10) t.heap) (fun z : Nat => o ≤ z)) 203 10504 (fun z : Nat => o ≤ z) := by
  refine Met.ofW (cc := cX4_move) (maxL := 3) (ret := (some .boolean)) (by decide) rfl ?_
  intro p e s m args below meth c s₁ B hml hv9
  obtain ⟨rfl, hK, ⟨dr, F, V, sr, C, L, U, la, vv, hdr, ho9, hw, hinv⟩⟩ := hv9
  have hx := B.exec
  have hb := B.bytes
  have hr := B.returns
  have hts := atoms_spec (ws := wsX4_move) B.pre
  have hown : s.vm.findClass RX4 = some m.cls := findClass_of_methodNamed B.named
  have hlocks := B.notSynchronized
  have hin4 : ∀ w ∈ wsX40, w ∈ wsX4_move := by decide +kernel
  generalize hAe : (fun z : Nat => o ≤ z) = A
  have hA : ∀ z : Nat, o ≤ z → A z := fun z h9 => by subst hAe; exact h9
  have hS : va_S A s.heap s.heap [] := va_S.rf
  have hl := lv_entry ([.ref o]) (n := 3) (Nat.le_of_ble_eq_true rfl)
  rw [lg_entry_eq]
  generalize (lg_sl ([.ref o]) ++ List.replicate (3 - (lg_sl ([.ref o])).length) Slot.unset).toArray = ls at hl ⊢
  have hl : lv_has ls 3 [(0, .ref o)] := hl
  have hA_o : A o := hA o (Nat.le_refl _)
  have hlt9 := hw.lt
  refine lv_aload_n hx hb dX4_move_0 rfl (lv_at hl 0 rfl) ?_
  refine lv_bipush (v := nI 8) hx hb dX4_move_1 (by decide) ?_
  refine va_calli (va_runV (As := [.int (nI 8)]) (rest := []) ⟨hx, hb, hml, hown, hts⟩ (conX4_draw l D T ad o sc N sf dr F V sr C L U la vv (by omega) (by omega) 8 (by omega) (by omega)) (cwV 1 hts gX4_move_X4_draw rfl rfl rfl (by decide +kernel) ⟨Nat.le_of_ble_eq_true rfl, Nat.le_of_ble_eq_true rfl⟩) (preV hK hw.ob rfl hw) rfl rfl hl.1 rfl (lv_room (Nat.le_of_ble_eq_true rfl)) dX4_move_3 ⟨Nat.le_of_ble_eq_true rfl, Nat.le_of_ble_eq_true rfl⟩) hS (fun q _ h9 => (by have h8 : q = o := h9; rw [h8]; exact hA_o)) (fun q h9 => (by have h8 : q = o := h9; rw [h8]; exact hA_o)) (fun r u t H1 locs1 ht hvm hw9 hB hz1 hk1 hS => ?_)
  try dsimp only at hB
  rw [ht] at hB
  obtain ⟨k1, hk1, rfl⟩ := hw9
  replace hw := hB
  refine lv_istore_n (lv' := [(1, .int (nI k1)), (0, .ref o)]) hx hb dX4_move_6 rfl hl (by decide) rfl (fun ls hl => ?_)
  refine lv_aload_n hx hb dX4_move_7 rfl (lv_at hl 1 rfl) ?_
  refine lv_iconst (v := nI 2) hx hb dX4_move_8 (by decide) ?_
  refine va_calli (va_runV (As := [.int (nI 2)]) (rest := []) ⟨hx, hb, hml, hown, hts⟩ (conX4_draw l D T ad o sc N sf (dr + 1) F V sr C L U la vv (by omega) (by omega) 2 (by omega) (by omega)) (cwV 1 hts gX4_move_X4_draw rfl rfl rfl (by decide +kernel) ⟨Nat.le_of_ble_eq_true rfl, Nat.le_of_ble_eq_true rfl⟩) (preV hK hw.ob rfl hw) rfl rfl hl.1 rfl (lv_room (Nat.le_of_ble_eq_true rfl)) dX4_move_9 ⟨Nat.le_of_ble_eq_true rfl, Nat.le_of_ble_eq_true rfl⟩) hS (fun q _ h9 => (by have h8 : q = o := h9; rw [h8]; exact hA_o)) (fun q h9 => (by have h8 : q = o := h9; rw [h8]; exact hA_o)) (fun r u t H1 locs1 ht hvm hw9 hB hz1 hk1 hS => ?_)
  try dsimp only at hB
  rw [ht] at hB
  obtain ⟨k2, hk2, rfl⟩ := hw9
  replace hw := hB
  refine lv_if_ne (tgt := 27) hx hb dX4_move_12 (by decide) (fun c12 => ?_) (fun c12 => ?_)
  · skip
    have c12 : ¬ (k2 = 0) := fun q9 => c12 ((nc_eq (a := k2) (b := 0) (by omega) (by omega)).mpr q9)
    refine lv_aload_n hx hb dX4_move_27 rfl (lv_at hl 1 rfl) ?_
    refine lv_sipush (v := nI 201) hx hb dX4_move_28 (by decide) ?_
    refine va_calli (va_runV (As := [.int (nI 201)]) (rest := []) ⟨hx, hb, hml, hown, hts⟩ (conX4_draw l D T ad o sc N sf (dr + 1 + 1) F V sr C L U la vv (by omega) (by omega) 201 (by omega) (by omega)) (cwV 1 hts gX4_move_X4_draw rfl rfl rfl (by decide +kernel) ⟨Nat.le_of_ble_eq_true rfl, Nat.le_of_ble_eq_true rfl⟩) (preV hK hw.ob rfl hw) rfl rfl hl.1 rfl (lv_room (Nat.le_of_ble_eq_true rfl)) dX4_move_31 ⟨Nat.le_of_ble_eq_true rfl, Nat.le_of_ble_eq_true rfl⟩) hS (fun q _ h9 => (by have h8 : q = o := h9; rw [h8]; exact hA_o)) (fun q h9 => (by have h8 : q = o := h9; rw [h8]; exact hA_o)) (fun r u t H1 locs1 ht hvm hw9 hB hz1 hk1 hS => ?_)
    try dsimp only at hB
    rw [ht] at hB
    obtain ⟨k3, hk3, rfl⟩ := hw9
    replace hw := hB
    refine lv_bipush (v := nI 100) hx hb dX4_move_34 (by decide) ?_
    refine lv_isub hx hb dX4_move_36 ?_
    refine lv_istore_n (lv' := [(2, .int ((nI k3) - (nI 100))), (1, .int (nI k1)), (0, .ref o)]) hx hb dX4_move_37 rfl hl (by decide) rfl (fun ls hl => ?_)
    refine lv_aload_n hx hb dX4_move_38 rfl (lv_at hl 2 rfl) ?_
    refine q_get (v := .ref (o + 38)) hx hb hts hin4 hown hK hw.ob rfl 3 (by decide) (hts (.fieldLink RX4 18 "PuddingstoneLineLaw$Stones" "sets" "[[[I") (by decide +kernel)) (fun _ h9 => h9) rfl dX4_move_39 ?_
    refine lv_iload_n hx hb dX4_move_42 rfl (lv_at hl 1 rfl) ?_
    refine lv_aload_n hx hb dX4_move_43 rfl (lv_at hl 2 rfl) ?_
    refine q_get (v := .ref (o + 38)) hx hb hts hin4 hown hK hw.ob rfl 3 (by decide) (hts (.fieldLink RX4 18 "PuddingstoneLineLaw$Stones" "sets" "[[[I") (by decide +kernel)) (fun _ h9 => h9) rfl dX4_move_44 ?_
    refine lv_iload_n hx hb dX4_move_47 rfl (lv_at hl 1 rfl) ?_
    refine q_aald hx hb hK 8 rfl rfl hw.ss k1 rfl (by omega) (by decide) (b := la k1) rfl dX4_move_48 ?_
    obtain ⟨hla1, hln1, ads1, hi1⟩ := hw.il k1 (by omega)
    have hR1 := hinv.2.1 k1 (by omega)
    refine lv_iload_n hx hb dX4_move_49 rfl (lv_at hl 0 rfl) ?_
    obtain ⟨Hw, hHw⟩ : ∃ z : Heap, z = H1 := ⟨_, rfl⟩
    obtain ⟨b1, hb1⟩ : ∃ z : Nat, z = H1.size := ⟨_, rfl⟩
    have ln_b1 : s.heap.size ≤ b1 := by have h8 := hS.1; omega
    have lw_b1 : Hw.size ≤ b1 := by rw [hHw]; omega
    refine va_callr (va_runS (As := [.ref (la k1), .int ((nI k3) - (nI 100))]) (rest := [.int (nI k1), .ref (o + 38)]) ⟨hx, hb, hml, hown, hts⟩ (conX4_moved l D T b1 (o + 53) (la k1) ads1 (L k1) _ hR1 ((nI k3) - (nI 100)) (rg_lo (by omega) (by omega) (by show (-100 : Int) ≤ _; omega)) (rg_hi (by omega) (by omega) (by omega) (by omega))) (va_cwS 2 hts gX4_move_X4_moved rfl rfl rfl (by decide +kernel) ⟨Nat.le_of_ble_eq_true rfl, Nat.le_of_ble_eq_true rfl⟩) (preS hK ⟨hb1.symm, hi1⟩) rfl rfl hl.1 rfl (lv_room (Nat.le_of_ble_eq_true rfl)) dX4_move_50 ⟨Nat.le_of_ble_eq_true rfl, Nat.le_of_ble_eq_true rfl⟩) hS (fun q _ h9 => (hA q (by have h8 : b1 ≤ q := h9; omega))) (fun q h9 => (hA q (by have h8 : b1 ≤ q := h9; omega))) (fun u ra t H1 locs1 ht hvm hw9 hB hz1 hk1 hS => ?_)
    try dsimp only at hB
    rw [ht] at hB
    obtain ⟨a1, rfl⟩ : ∃ z, z = ra := ⟨_, rfl⟩
    obtain ⟨hra, S, hrep, adm, hil⟩ := hB
    rw [← hHw] at hw hi1
    have hwk : ∀ z : Nat, z < Hw.size → H1[z]? = Hw[z]? := by rw [hHw]; exact fun z hz => hk1 z (by omega) (fun h9 => by have h8 : b1 ≤ z := h9; omega)
    refine q_aastq hx hb hK (hw.ss.kept (hwk _ hw.ss.lt)) hil.1 k1 rfl (by omega) (by decide) hS (hA _ (by omega)) dX4_move_53 (fun H1 locs1 hw9 hz oq hS => ?_)
    replace hw := (hw.old hwk).setL (k := k1) (m := a1) (S := S) (by omega) hrep.1.le ⟨_, hil.wk (by omega)⟩ hw9 oq
    replace hil := hil.up (m := o + 53) (by omega) (by omega) (fun z h8 h7 => oq z (by omega))
    refine lv_aload_n hx hb dX4_move_54 rfl (lv_at hl 2 rfl) ?_
    refine q_get (v := .ref (ad 0)) hx hb hts hin4 hown hK hw.ob rfl 0 (by decide) (hts (.fieldLink RX4 10 "PuddingstoneLineLaw$Stones" "m" "LPuddingstoneLine;") (by decide +kernel)) (fun _ h9 => h9) rfl dX4_move_55 ?_
    refine lv_iload_n hx hb dX4_move_58 rfl (lv_at hl 1 rfl) ?_
    refine lv_iload_n hx hb dX4_move_59 rfl (lv_at hl 0 rfl) ?_
    refine va_calli (va_runV (As := [.int (nI k1), .int ((nI k3) - (nI 100))]) (rest := []) ⟨hx, hb, hml, hown, hts⟩ (conX3_move l D T ad F V sr C k1 ((nI k3) - (nI 100)) (by omega) (rg_lo (by omega) (by omega) (by show (-100 : Int) ≤ _; omega)) (rg_hi (by omega) (by omega) (by omega) (by omega))) (cwV 2 hts gX4_move_X3_move rfl rfl rfl (by decide +kernel) ⟨Nat.le_of_ble_eq_true rfl, Nat.le_of_ble_eq_true rfl⟩) (preV hK hw.pl.o rfl hw.pl) rfl rfl hl.1 rfl (lv_room (Nat.le_of_ble_eq_true rfl)) dX4_move_60 ⟨Nat.le_of_ble_eq_true rfl, Nat.le_of_ble_eq_true rfl⟩) hS (fun q _ h9 => (by obtain ⟨i9, h8, rfl⟩ := h9; exact hA _ (by have := hw.1 i9 h8; omega))) (fun q h9 => (by obtain ⟨i9, h8, rfl⟩ := h9; exact hA _ (by have := hw.1 i9 h8; omega))) (fun r u t H1 locs1 ht hvm hw9 hB hz1 hk1 hS => ?_)
    try dsimp only at hB
    rw [ht] at hB
    rw [hw9]
    replace hil := hil.up (m := o + 53) (by omega) (by omega) (fun z h8 h7 => hk1 z h7 (fun ⟨i9, h6, h5⟩ => by have := hw.1 i9 h6; omega))
    replace hw := hw.setP hB (fun q h1 h2 => hk1 q h1 h2)
    refine lv_aload_n hx hb dX4_move_63 rfl (lv_at hl 2 rfl) ?_
    refine q_get (v := .ref (o + 38)) hx hb hts hin4 hown hK hw.ob rfl 3 (by decide) (hts (.fieldLink RX4 18 "PuddingstoneLineLaw$Stones" "sets" "[[[I") (by decide +kernel)) (fun _ h9 => h9) rfl dX4_move_64 ?_
    refine lv_iload_n hx hb dX4_move_67 rfl (lv_at hl 1 rfl) ?_
    refine q_aald hx hb hK 8 rfl rfl hw.ss k1 rfl (by omega) (by decide) (b := a1) (congrArg some (va_up_s _ _ _)) dX4_move_68 ?_
    refine vp_callSi (va_runS (As := [.ref a1]) (rest := [.int (cntZ (movZ (va_up F 8 (copyZ (F 8) (F k1) 201)) k1 (nI 2 * ((nI k3) - (nI 100))) 201) 201)]) ⟨hx, hb, hml, hown, hts⟩ (conX4_count l D T b1 a1 (fun k => adm k) S.1 S.2.1 S.2.2 (fun k hk => hrep.sp hk) hrep.1.le) (va_cwS 1 hts gX4_move_X4_count rfl rfl rfl (by decide +kernel) ⟨Nat.le_of_ble_eq_true rfl, Nat.le_of_ble_eq_true rfl⟩) (preS hK hil) rfl rfl hl.1 rfl (lv_room (Nat.le_of_ble_eq_true rfl)) dX4_move_69 ⟨Nat.le_of_ble_eq_true rfl, Nat.le_of_ble_eq_true rfl⟩).run (fun r2 hr2 => ?_)
    rw [hr2]
    have hrp : Rep (pB (movZ (va_up F 8 (copyZ (F 8) (F k1) 201)) k1 (nI 2 * ((nI k3) - (nI 100))) 201)) 201 S := hrep.congr fun g hg => (movZ_h F (nI 2 * ((nI k3) - (nI 100))) (by omega) g hg).trans (mv_pB (F k1) (rg_lo (by omega) (by omega) (by show (-100 : Int) ≤ _; omega)) (rg_hi (by omega) (by omega) (by omega) (by omega)) hg)
    have hans := ans_cnt hrp
    refine lv_icmp_ne (tgt := 79) hx hb dX4_move_72 (by decide) (fun c72 => ?_) (fun c72 => ?_)
    · skip
      exact absurd hans c72
    · skip
      refine lv_iconst (v := nI 1) hx hb dX4_move_75 (by decide) ?_
      refine lv_goto (tgt := 80) hx hb dX4_move_76 (by decide) ?_
      exact W.zret (v := nI 1) hx hb hr (rfl) (fun t ht _ => ⟨⟨nI 1, (), rfl, by rfl, by dsimp only; rw [ht]; exact ⟨_, _, _, _, _, _, _, _, _, by omega, (by have h8 := hS.1; omega), hw, hinv.put hinv.1 up_ne8 (by rw [va_up_s]; exact hrp)⟩⟩, hS.F ht⟩) hS.2.2 dX4_move_80
  · skip
    have c12 : k2 = 0 := (nc_eq (a := k2) (b := 0) (by omega) (by omega)).mp c12
    refine lv_aload_n hx hb dX4_move_15 rfl (lv_at hl 1 rfl) ?_
    refine lv_bipush (v := nI 41) hx hb dX4_move_16 (by decide) ?_
    refine va_calli (va_runV (As := [.int (nI 41)]) (rest := []) ⟨hx, hb, hml, hown, hts⟩ (conX4_draw l D T ad o sc N sf (dr + 1 + 1) F V sr C L U la vv (by omega) (by omega) 41 (by omega) (by omega)) (cwV 1 hts gX4_move_X4_draw rfl rfl rfl (by decide +kernel) ⟨Nat.le_of_ble_eq_true rfl, Nat.le_of_ble_eq_true rfl⟩) (preV hK hw.ob rfl hw) rfl rfl hl.1 rfl (lv_room (Nat.le_of_ble_eq_true rfl)) dX4_move_18 ⟨Nat.le_of_ble_eq_true rfl, Nat.le_of_ble_eq_true rfl⟩) hS (fun q _ h9 => (by have h8 : q = o := h9; rw [h8]; exact hA_o)) (fun q h9 => (by have h8 : q = o := h9; rw [h8]; exact hA_o)) (fun r u t H1 locs1 ht hvm hw9 hB hz1 hk1 hS => ?_)
    try dsimp only at hB
    rw [ht] at hB
    obtain ⟨k3, hk3, rfl⟩ := hw9
    replace hw := hB
    refine lv_bipush (v := nI 20) hx hb dX4_move_21 (by decide) ?_
    refine lv_isub hx hb dX4_move_23 ?_
    refine lv_goto (tgt := 37) hx hb dX4_move_24 (by decide) ?_
    refine lv_istore_n (lv' := [(2, .int ((nI k3) - (nI 20))), (1, .int (nI k1)), (0, .ref o)]) hx hb dX4_move_37 rfl hl (by decide) rfl (fun ls hl => ?_)
    refine lv_aload_n hx hb dX4_move_38 rfl (lv_at hl 2 rfl) ?_
    refine q_get (v := .ref (o + 38)) hx hb hts hin4 hown hK hw.ob rfl 3 (by decide) (hts (.fieldLink RX4 18 "PuddingstoneLineLaw$Stones" "sets" "[[[I") (by decide +kernel)) (fun _ h9 => h9) rfl dX4_move_39 ?_
    refine lv_iload_n hx hb dX4_move_42 rfl (lv_at hl 1 rfl) ?_
    refine lv_aload_n hx hb dX4_move_43 rfl (lv_at hl 2 rfl) ?_
    refine q_get (v := .ref (o + 38)) hx hb hts hin4 hown hK hw.ob rfl 3 (by decide) (hts (.fieldLink RX4 18 "PuddingstoneLineLaw$Stones" "sets" "[[[I") (by decide +kernel)) (fun _ h9 => h9) rfl dX4_move_44 ?_
    refine lv_iload_n hx hb dX4_move_47 rfl (lv_at hl 1 rfl) ?_
    refine q_aald hx hb hK 8 rfl rfl hw.ss k1 rfl (by omega) (by decide) (b := la k1) rfl dX4_move_48 ?_
    obtain ⟨hla1, hln1, ads1, hi1⟩ := hw.il k1 (by omega)
    have hR1 := hinv.2.1 k1 (by omega)
    refine lv_iload_n hx hb dX4_move_49 rfl (lv_at hl 0 rfl) ?_
    obtain ⟨Hw, hHw⟩ : ∃ z : Heap, z = H1 := ⟨_, rfl⟩
    obtain ⟨b1, hb1⟩ : ∃ z : Nat, z = H1.size := ⟨_, rfl⟩
    have ln_b1 : s.heap.size ≤ b1 := by have h8 := hS.1; omega
    have lw_b1 : Hw.size ≤ b1 := by rw [hHw]; omega
    refine va_callr (va_runS (As := [.ref (la k1), .int ((nI k3) - (nI 20))]) (rest := [.int (nI k1), .ref (o + 38)]) ⟨hx, hb, hml, hown, hts⟩ (conX4_moved l D T b1 (o + 53) (la k1) ads1 (L k1) _ hR1 ((nI k3) - (nI 20)) (rg_lo (by omega) (by omega) (by show (-100 : Int) ≤ _; omega)) (rg_hi (by omega) (by omega) (by omega) (by omega))) (va_cwS 2 hts gX4_move_X4_moved rfl rfl rfl (by decide +kernel) ⟨Nat.le_of_ble_eq_true rfl, Nat.le_of_ble_eq_true rfl⟩) (preS hK ⟨hb1.symm, hi1⟩) rfl rfl hl.1 rfl (lv_room (Nat.le_of_ble_eq_true rfl)) dX4_move_50 ⟨Nat.le_of_ble_eq_true rfl, Nat.le_of_ble_eq_true rfl⟩) hS (fun q _ h9 => (hA q (by have h8 : b1 ≤ q := h9; omega))) (fun q h9 => (hA q (by have h8 : b1 ≤ q := h9; omega))) (fun u ra t H1 locs1 ht hvm hw9 hB hz1 hk1 hS => ?_)
    try dsimp only at hB
    rw [ht] at hB
    obtain ⟨a3, rfl⟩ : ∃ z, z = ra := ⟨_, rfl⟩
    obtain ⟨hra, S, hrep, adm, hil⟩ := hB
    rw [← hHw] at hw hi1
    have hwk : ∀ z : Nat, z < Hw.size → H1[z]? = Hw[z]? := by rw [hHw]; exact fun z hz => hk1 z (by omega) (fun h9 => by have h8 : b1 ≤ z := h9; omega)
    refine q_aastq hx hb hK (hw.ss.kept (hwk _ hw.ss.lt)) hil.1 k1 rfl (by omega) (by decide) hS (hA _ (by omega)) dX4_move_53 (fun H1 locs1 hw9 hz oq hS => ?_)
    replace hw := (hw.old hwk).setL (k := k1) (m := a3) (S := S) (by omega) hrep.1.le ⟨_, hil.wk (by omega)⟩ hw9 oq
    replace hil := hil.up (m := o + 53) (by omega) (by omega) (fun z h8 h7 => oq z (by omega))
    refine lv_aload_n hx hb dX4_move_54 rfl (lv_at hl 2 rfl) ?_
    refine q_get (v := .ref (ad 0)) hx hb hts hin4 hown hK hw.ob rfl 0 (by decide) (hts (.fieldLink RX4 10 "PuddingstoneLineLaw$Stones" "m" "LPuddingstoneLine;") (by decide +kernel)) (fun _ h9 => h9) rfl dX4_move_55 ?_
    refine lv_iload_n hx hb dX4_move_58 rfl (lv_at hl 1 rfl) ?_
    refine lv_iload_n hx hb dX4_move_59 rfl (lv_at hl 0 rfl) ?_
    refine va_calli (va_runV (As := [.int (nI k1), .int ((nI k3) - (nI 20))]) (rest := []) ⟨hx, hb, hml, hown, hts⟩ (conX3_move l D T ad F V sr C k1 ((nI k3) - (nI 20)) (by omega) (rg_lo (by omega) (by omega) (by show (-100 : Int) ≤ _; omega)) (rg_hi (by omega) (by omega) (by omega) (by omega))) (cwV 2 hts gX4_move_X3_move rfl rfl rfl (by decide +kernel) ⟨Nat.le_of_ble_eq_true rfl, Nat.le_of_ble_eq_true rfl⟩) (preV hK hw.pl.o rfl hw.pl) rfl rfl hl.1 rfl (lv_room (Nat.le_of_ble_eq_true rfl)) dX4_move_60 ⟨Nat.le_of_ble_eq_true rfl, Nat.le_of_ble_eq_true rfl⟩) hS (fun q _ h9 => (by obtain ⟨i9, h8, rfl⟩ := h9; exact hA _ (by have := hw.1 i9 h8; omega))) (fun q h9 => (by obtain ⟨i9, h8, rfl⟩ := h9; exact hA _ (by have := hw.1 i9 h8; omega))) (fun r u t H1 locs1 ht hvm hw9 hB hz1 hk1 hS => ?_)
    try dsimp only at hB
    rw [ht] at hB
    rw [hw9]
    replace hil := hil.up (m := o + 53) (by omega) (by omega) (fun z h8 h7 => hk1 z h7 (fun ⟨i9, h6, h5⟩ => by have := hw.1 i9 h6; omega))
    replace hw := hw.setP hB (fun q h1 h2 => hk1 q h1 h2)
    refine lv_aload_n hx hb dX4_move_63 rfl (lv_at hl 2 rfl) ?_
    refine q_get (v := .ref (o + 38)) hx hb hts hin4 hown hK hw.ob rfl 3 (by decide) (hts (.fieldLink RX4 18 "PuddingstoneLineLaw$Stones" "sets" "[[[I") (by decide +kernel)) (fun _ h9 => h9) rfl dX4_move_64 ?_
    refine lv_iload_n hx hb dX4_move_67 rfl (lv_at hl 1 rfl) ?_
    refine q_aald hx hb hK 8 rfl rfl hw.ss k1 rfl (by omega) (by decide) (b := a3) (congrArg some (va_up_s _ _ _)) dX4_move_68 ?_
    refine vp_callSi (va_runS (As := [.ref a3]) (rest := [.int (cntZ (movZ (va_up F 8 (copyZ (F 8) (F k1) 201)) k1 (nI 2 * ((nI k3) - (nI 20))) 201) 201)]) ⟨hx, hb, hml, hown, hts⟩ (conX4_count l D T b1 a3 (fun k => adm k) S.1 S.2.1 S.2.2 (fun k hk => hrep.sp hk) hrep.1.le) (va_cwS 1 hts gX4_move_X4_count rfl rfl rfl (by decide +kernel) ⟨Nat.le_of_ble_eq_true rfl, Nat.le_of_ble_eq_true rfl⟩) (preS hK hil) rfl rfl hl.1 rfl (lv_room (Nat.le_of_ble_eq_true rfl)) dX4_move_69 ⟨Nat.le_of_ble_eq_true rfl, Nat.le_of_ble_eq_true rfl⟩).run (fun r4 hr4 => ?_)
    rw [hr4]
    have hrp : Rep (pB (movZ (va_up F 8 (copyZ (F 8) (F k1) 201)) k1 (nI 2 * ((nI k3) - (nI 20))) 201)) 201 S := hrep.congr fun g hg => (movZ_h F (nI 2 * ((nI k3) - (nI 20))) (by omega) g hg).trans (mv_pB (F k1) (rg_lo (by omega) (by omega) (by show (-100 : Int) ≤ _; omega)) (rg_hi (by omega) (by omega) (by omega) (by omega)) hg)
    have hans := ans_cnt hrp
    refine lv_icmp_ne (tgt := 79) hx hb dX4_move_72 (by decide) (fun c72 => ?_) (fun c72 => ?_)
    · skip
      exact absurd hans c72
    · skip
      refine lv_iconst (v := nI 1) hx hb dX4_move_75 (by decide) ?_
      refine lv_goto (tgt := 80) hx hb dX4_move_76 (by decide) ?_
      exact W.zret (v := nI 1) hx hb hr (rfl) (fun t ht _ => ⟨⟨nI 1, (), rfl, by rfl, by dsimp only; rw [ht]; exact ⟨_, _, _, _, _, _, _, _, _, by omega, (by have h8 := hS.1; omega), hw, hinv.put hinv.1 up_ne8 (by rw [va_up_s]; exact hrp)⟩⟩, hS.F ht⟩) hS.2.2 dX4_move_80
