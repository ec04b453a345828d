/-! STONES: A SPAN THAT CELLS CHOOSE -/
def an5 (x y e : Nat) : Nat → Int32 := fun j => if j = 0 then nI (fgN x y e) else if j = 1 then nI (lgN x y e - 1) else if j = 2 then nI x else if j = 3 then nI y else nI e
theorem any_ne {x y e j : Nat} (h : x < y) (he : e ≤ 3) (hj : j < 5) : upd (upd (upd (upd (upd zr0 0 (nI (2 * x + 1 - e % 2))) 1 (nI (2 * y) - nI 1 + nI (e / 2))) 2 (nI x)) 3 (nI y)) 4 (nI e) j = an5 x y e j := by
  have e0 : 2 * x + 1 - e % 2 = fgN x y e := by
    unfold fgN
    rw [if_neg (by omega)]
    by_cases c : e % 2 = 0
    · rw [if_pos c, c]
      omega
    · rw [if_neg c]
      omega
  have e1 : nI (2 * y) - nI 1 + nI (e / 2) = nI (lgN x y e - 1) := by
    rw [pk_sub (by omega), nI_add]
    congr 1
    unfold lgN
    rw [if_neg (by omega)]
    by_cases c : e < 2
    · rw [if_pos c]
      omega
    · rw [if_neg c]
      omega
  rw [e0, e1]
  rcases (show j = 0 ∨ j = 1 ∨ j = 2 ∨ j = 3 ∨ j = 4 by omega) with rfl | rfl | rfl | rfl | rfl <;> rfl
theorem any_eq {x y e j : Nat} {v0 v1 : Int32} (h : x = y) (hj : j < 5) : upd (upd (upd (upd (upd (upd (upd zr0 0 v0) 1 v1) 2 (nI x)) 3 (nI y)) 4 (nI e)) 0 (nI (2 * x))) 1 (nI (2 * x)) j = an5 x y e j := by
  have e0 : 2 * x = fgN x y e := by
    unfold fgN
    rw [if_pos h]
  have e1 : 2 * x = lgN x y e - 1 := by
    unfold lgN
    rw [if_pos h]
    omega
  rcases (show j = 0 ∨ j = 1 ∨ j = 2 ∨ j = 3 ∨ j = 4 by omega) with rfl | rfl | rfl | rfl | rfl
  · exact congrArg nI e0
  · exact congrArg nI e1
  · rfl
  · rfl
  · rfl
set_option maxHeartbeats 4000000 in
set_option maxRecDepth 100000 in
theorem conX4_any (l : Launch) (D : va_G) (T : Nat → ClassId) (ad : Nat → Nat) (o sc N : Nat) (sf : Nat → Int32) (dr : Nat) (F V : Nat → Nat → Int32) (sr : SRs) (C : Nat → Int32) (L : Nat → SL) (U : Nat → Nat → Int32) (la vv : Nat → Nat) (hN : N < 2 ^ 30) (hdr : dr < 2 ^ 30) (sz : Nat) (hsz9 : o < sz) (hdr9 : dr + 10 < 2 ^ 30) : Met l yX4_any wsX4_any ({ frames := 2, cells := 1, slots := 5, locals := 43 }) (cP D T [.ref o] (fun H => H.size = sz ∧ SW D T ad o sc N sf dr F V sr C L U la vv H)) (va_Qr (fun (_ : Unit) => True) (fun _ r t => ∃ x y e9 : Nat, x ≤ y ∧ y ≤ 100 ∧ e9 ≤ 3 ∧ sz ≤ r ∧ pAt D t.heap r (eN (T 1) 5 (an5 x y e9)) ∧ SW D T ad o sc N sf (dr + 4) F V sr C L U la vv t.heap) (fun z : Nat => z = o ∨ sz ≤ z)) 1 5 (fun z : Nat => z = o ∨ sz ≤ z) := by
  refine Met.ofW (cc := cX4_any) (maxL := 7) (ret := (some (.array .int))) (by decide) rfl ?_
  intro p e s m args below meth c s₁ B hml hv9
  obtain ⟨rfl, hK, hsz, hw⟩ := hv9
  have hx := B.exec
  have hb := B.bytes
  have hr := B.returns
  have hts := atoms_spec (ws := wsX4_any) B.pre
  have hown : s.vm.findClass RX4 = some m.cls := findClass_of_methodNamed B.named
  have hlocks := B.notSynchronized
  generalize hAe : (fun z : Nat => z = o ∨ sz ≤ z) = A
  have hA_o : A o := by subst hAe; first | rfl | exact Or.inl rfl | exact Or.inr rfl | (simp; done)
  have hA : ∀ z : Nat, s.heap.size ≤ z → A z := fun z h9 => by subst hAe; exact Or.inr (by omega)
  have hS : va_S A s.heap s.heap [] := va_S.rf
  have hl := lv_entry ([.ref o]) (n := 7) (Nat.le_of_ble_eq_true rfl)
  rw [lg_entry_eq]
  generalize (lg_sl ([.ref o]) ++ List.replicate (7 - (lg_sl ([.ref o])).length) Slot.unset).toArray = ls at hl ⊢
  have hl : lv_has ls 7 [(0, .ref o)] := hl
  refine lv_aload_n hx hb dX4_any_0 rfl (lv_at hl 0 rfl) ?_
  refine lv_bipush (v := nI 101) hx hb dX4_any_1 (by decide) ?_
  refine va_calli (va_runV (As := [.int (nI 101)]) (rest := []) ⟨hx, hb, hml, hown, hts⟩ (conX4_draw l D T ad o sc N sf dr F V sr C L U la vv (by omega) (by omega) 101 (by omega) (by omega)) (cwV 1 hts gX4_any_X4_draw rfl rfl rfl (by decide +kernel) ⟨Nat.le_of_ble_eq_true rfl, Nat.le_of_ble_eq_true rfl⟩) (preV hK hw.ob rfl hw) rfl rfl hl.1 rfl (lv_room (Nat.le_of_ble_eq_true rfl)) dX4_any_3 ⟨Nat.le_of_ble_eq_true rfl, Nat.le_of_ble_eq_true rfl⟩) hS (fun q _ h9 => (by have h8 : q = o := h9; rw [h8]; exact hA_o)) (fun q h9 => (by have h8 : q = o := h9; rw [h8]; exact hA_o)) (fun r u t H1 locs1 ht hvm hw9 hB hz1 hk1 hS => ?_)
  try dsimp only at hB
  rw [ht] at hB
  obtain ⟨k1, hk1, rfl⟩ := hw9
  replace hw := hB
  refine lv_istore_n (lv' := [(1, .int (nI k1)), (0, .ref o)]) hx hb dX4_any_6 rfl hl (by decide) rfl (fun ls hl => ?_)
  refine lv_aload_n hx hb dX4_any_7 rfl (lv_at hl 1 rfl) ?_
  refine lv_iconst (v := nI 3) hx hb dX4_any_8 (by decide) ?_
  refine va_calli (va_runV (As := [.int (nI 3)]) (rest := []) ⟨hx, hb, hml, hown, hts⟩ (conX4_draw l D T ad o sc N sf (dr + 1) F V sr C L U la vv (by omega) (by omega) 3 (by omega) (by omega)) (cwV 1 hts gX4_any_X4_draw rfl rfl rfl (by decide +kernel) ⟨Nat.le_of_ble_eq_true rfl, Nat.le_of_ble_eq_true rfl⟩) (preV hK hw.ob rfl hw) rfl rfl hl.1 rfl (lv_room (Nat.le_of_ble_eq_true rfl)) dX4_any_9 ⟨Nat.le_of_ble_eq_true rfl, Nat.le_of_ble_eq_true rfl⟩) hS (fun q _ h9 => (by have h8 : q = o := h9; rw [h8]; exact hA_o)) (fun q h9 => (by have h8 : q = o := h9; rw [h8]; exact hA_o)) (fun r u t H1 locs1 ht hvm hw9 hB hz1 hk1 hS => ?_)
  try dsimp only at hB
  rw [ht] at hB
  obtain ⟨k2, hk2, rfl⟩ := hw9
  replace hw := hB
  refine lv_if_ne (tgt := 24) hx hb dX4_any_12 (by decide) (fun c12 => ?_) (fun c12 => ?_)
  · skip
    have c12 : ¬ (k2 = 0) := fun q9 => c12 ((nc_eq (a := k2) (b := 0) (by omega) (by omega)).mpr q9)
    refine lv_bipush (v := nI 100) hx hb dX4_any_24 (by decide) ?_
    refine lv_iload_n hx hb dX4_any_26 rfl (lv_at hl 0 rfl) ?_
    refine lv_aload_n hx hb dX4_any_27 rfl (lv_at hl 1 rfl) ?_
    refine lv_bipush (v := nI 14) hx hb dX4_any_28 (by decide) ?_
    refine va_calli (va_runV (As := [.int (nI 14)]) (rest := [.int (nI k1), .int (nI 100)]) ⟨hx, hb, hml, hown, hts⟩ (conX4_draw l D T ad o sc N sf (dr + 1 + 1) F V sr C L U la vv (by omega) (by omega) 14 (by omega) (by omega)) (cwV 1 hts gX4_any_X4_draw rfl rfl rfl (by decide +kernel) ⟨Nat.le_of_ble_eq_true rfl, Nat.le_of_ble_eq_true rfl⟩) (preV hK hw.ob rfl hw) rfl rfl hl.1 rfl (lv_room (Nat.le_of_ble_eq_true rfl)) dX4_any_30 ⟨Nat.le_of_ble_eq_true rfl, Nat.le_of_ble_eq_true rfl⟩) hS (fun q _ h9 => (by have h8 : q = o := h9; rw [h8]; exact hA_o)) (fun q h9 => (by have h8 : q = o := h9; rw [h8]; exact hA_o)) (fun r u t H1 locs1 ht hvm hw9 hB hz1 hk1 hS => ?_)
    try dsimp only at hB
    rw [ht] at hB
    obtain ⟨k3, hk3, rfl⟩ := hw9
    replace hw := hB
    refine lv_iadd hx hb dX4_any_33 ?_
    rw [nI_add]
    refine va_mmin hx hb (hml.trans hl.1.symm) hown (hts (.methodLink RX4 66 Lib.Math.min.name) (by decide +kernel)) (hts (.static Lib.Math.min.name) (by decide +kernel)) (hts (.initialized "java/lang/Math") (by decide +kernel)) (hts (.code Lib.Math.min.name Lib.Math.min.code 2 (some .int)) (by decide +kernel)) (Nat.le_of_ble_eq_true rfl) (Nat.le_of_ble_eq_true rfl) (Nat.le_of_ble_eq_true rfl) (Nat.le_of_ble_eq_true rfl) dX4_any_34 ?_
    refine W.eq (g2 := F0 m 37 ls [.int (jmin (nI 100) (nI (k1 + k3)))]) rfl ?_
    rw [jmin_nat (a := 100) (b := k1 + k3) (by omega) (by omega)]
    refine lv_istore_n (lv' := [(2, .int (nI (min 100 (k1 + k3)))), (1, .int (nI k1)), (0, .ref o)]) hx hb dX4_any_37 rfl hl (by decide) rfl (fun ls hl => ?_)
    refine lv_aload_n hx hb dX4_any_38 rfl (lv_at hl 2 rfl) ?_
    refine lv_iconst (v := nI 4) hx hb dX4_any_39 (by decide) ?_
    refine va_calli (va_runV (As := [.int (nI 4)]) (rest := []) ⟨hx, hb, hml, hown, hts⟩ (conX4_draw l D T ad o sc N sf (dr + 1 + 1 + 1) F V sr C L U la vv (by omega) (by omega) 4 (by omega) (by omega)) (cwV 1 hts gX4_any_X4_draw rfl rfl rfl (by decide +kernel) ⟨Nat.le_of_ble_eq_true rfl, Nat.le_of_ble_eq_true rfl⟩) (preV hK hw.ob rfl hw) rfl rfl hl.1 rfl (lv_room (Nat.le_of_ble_eq_true rfl)) dX4_any_40 ⟨Nat.le_of_ble_eq_true rfl, Nat.le_of_ble_eq_true rfl⟩) hS (fun q _ h9 => (by have h8 : q = o := h9; rw [h8]; exact hA_o)) (fun q h9 => (by have h8 : q = o := h9; rw [h8]; exact hA_o)) (fun r u t H1 locs1 ht hvm hw9 hB hz1 hk1 hS => ?_)
    try dsimp only at hB
    rw [ht] at hB
    obtain ⟨k4, hk4, rfl⟩ := hw9
    replace hw := hB
    refine lv_istore_n (lv' := [(3, .int (nI k4)), (2, .int (nI (min 100 (k1 + k3)))), (1, .int (nI k1)), (0, .ref o)]) hx hb dX4_any_43 rfl hl (by decide) rfl (fun ls hl => ?_)
    refine lv_iload_n hx hb dX4_any_44 rfl (lv_at hl 2 rfl) ?_
    refine lv_iload_n hx hb dX4_any_45 rfl (lv_at hl 1 rfl) ?_
    refine va_mmin hx hb (hml.trans hl.1.symm) hown (hts (.methodLink RX4 66 Lib.Math.min.name) (by decide +kernel)) (hts (.static Lib.Math.min.name) (by decide +kernel)) (hts (.initialized "java/lang/Math") (by decide +kernel)) (hts (.code Lib.Math.min.name Lib.Math.min.code 2 (some .int)) (by decide +kernel)) (Nat.le_of_ble_eq_true rfl) (Nat.le_of_ble_eq_true rfl) (Nat.le_of_ble_eq_true rfl) (Nat.le_of_ble_eq_true rfl) dX4_any_46 ?_
    refine W.eq (g2 := F0 m 49 ls [.int (jmin (nI k1) (nI (min 100 (k1 + k3))))]) rfl ?_
    rw [jmin_nat (a := k1) (b := min 100 (k1 + k3)) (by omega) (by omega)]
    refine lv_istore (lv' := [(4, .int (nI (min k1 (min 100 (k1 + k3))))), (3, .int (nI k4)), (2, .int (nI (min 100 (k1 + k3)))), (1, .int (nI k1)), (0, .ref o)]) hx hb dX4_any_49 hl (by decide) rfl (fun ls hl => ?_)
    refine lv_iload_n hx hb dX4_any_51 rfl (lv_at hl 3 rfl) ?_
    refine lv_iload_n hx hb dX4_any_52 rfl (lv_at hl 2 rfl) ?_
    refine va_mmax hx hb (hml.trans hl.1.symm) hown (hts (.methodLink RX4 71 Lib.Math.max.name) (by decide +kernel)) (hts (.static Lib.Math.max.name) (by decide +kernel)) (hts (.initialized "java/lang/Math") (by decide +kernel)) (hts (.code Lib.Math.max.name Lib.Math.max.code 2 (some .int)) (by decide +kernel)) (Nat.le_of_ble_eq_true rfl) (Nat.le_of_ble_eq_true rfl) (Nat.le_of_ble_eq_true rfl) (Nat.le_of_ble_eq_true rfl) dX4_any_53 ?_
    refine W.eq (g2 := F0 m 56 ls [.int (jmax (nI k1) (nI (min 100 (k1 + k3))))]) rfl ?_
    rw [jmax_nat (a := k1) (b := min 100 (k1 + k3)) (by omega) (by omega)]
    refine lv_istore (lv' := [(5, .int (nI (max k1 (min 100 (k1 + k3))))), (4, .int (nI (min k1 (min 100 (k1 + k3))))), (3, .int (nI k4)), (2, .int (nI (min 100 (k1 + k3)))), (1, .int (nI k1)), (0, .ref o)]) hx hb dX4_any_56 hl (by decide) rfl (fun ls hl => ?_)
    refine lv_iconst (v := nI 5) hx hb dX4_any_58 (by decide) ?_
    obtain ⟨b1, hb1⟩ : ∃ z : Nat, z = H1.size := ⟨_, rfl⟩
    have ln_b1 : s.heap.size ≤ b1 := by have h8 := hS.1; omega
    refine q_newi hx hb (hts (.arrayClass .int) (by decide +kernel)) hK 5 rfl (by decide) (by show _ ≤ 1; omega) (by show _ ≤ 5; omega) hS dX4_any_59 (fun H1 hw9 z1 o1 hS => ?_)
    rw [← hb1] at hw9 ⊢
    have nb1 := hw9
    have sb1 : H1.size = b1 + 1 := by omega
    have hwk := o1
    have hlk9 := hb1
    refine lv_dup hx hb dX4_any_61 rfl ?_
    refine lv_iconst (v := nI 0) hx hb dX4_any_62 (by decide) ?_
    refine lv_iconst (v := nI 2) hx hb dX4_any_63 (by decide) ?_
    refine lv_iload hx hb dX4_any_64 (lv_at hl 1 rfl) ?_
    refine lv_imul hx hb dX4_any_66 ?_
    rw [pk_mul]
    refine lv_iconst (v := nI 1) hx hb dX4_any_67 (by decide) ?_
    refine lv_iadd hx hb dX4_any_68 ?_
    rw [nI_add]
    refine lv_iload_n hx hb dX4_any_69 rfl (lv_at hl 2 rfl) ?_
    refine lv_iconst (v := nI 2) hx hb dX4_any_70 (by decide) ?_
    refine lv_irem hx hb dX4_any_71 (by decide) ?_
    rw [pk_rem (a := k4) (d := 2) (by omega) (by omega) (by omega)]
    refine lv_isub hx hb dX4_any_72 ?_
    rw [pk_sub (a := (2 * (min k1 (min 100 (k1 + k3)))) + 1) (b := k4 % 2) (by omega)]
    refine q_iast hx hb hK nb1 0 (rfl) (by omega) (by decide) hS (hA _ (by omega)) dX4_any_73 (fun H1 locs1 hw9 hz oq hS => ?_)
    have nb1 := hw9
    replace hwk := fun (z : Nat) hz => (oq z (by omega)).trans (hwk z hz)
    refine lv_dup hx hb dX4_any_74 rfl ?_
    refine lv_iconst (v := nI 1) hx hb dX4_any_75 (by decide) ?_
    refine lv_iconst (v := nI 2) hx hb dX4_any_76 (by decide) ?_
    refine lv_iload hx hb dX4_any_77 (lv_at hl 0 rfl) ?_
    refine lv_imul hx hb dX4_any_79 ?_
    rw [pk_mul]
    refine lv_iconst (v := nI 1) hx hb dX4_any_80 (by decide) ?_
    refine lv_isub hx hb dX4_any_81 ?_
    refine lv_iload_n hx hb dX4_any_82 rfl (lv_at hl 2 rfl) ?_
    refine lv_iconst (v := nI 2) hx hb dX4_any_83 (by decide) ?_
    refine lv_idiv hx hb dX4_any_84 (by decide) ?_
    rw [pk_div (a := k4) (d := 2) (by omega) (by omega) (by omega)]
    refine lv_iadd hx hb dX4_any_85 ?_
    refine q_iast hx hb hK nb1 1 (rfl) (by omega) (by decide) hS (hA _ (by omega)) dX4_any_86 (fun H1 locs1 hw9 hz oq hS => ?_)
    have nb1 := hw9
    replace hwk := fun (z : Nat) hz => (oq z (by omega)).trans (hwk z hz)
    refine lv_dup hx hb dX4_any_87 rfl ?_
    refine lv_iconst (v := nI 2) hx hb dX4_any_88 (by decide) ?_
    refine lv_iload hx hb dX4_any_89 (lv_at hl 1 rfl) ?_
    refine q_iast hx hb hK nb1 2 (rfl) (by omega) (by decide) hS (hA _ (by omega)) dX4_any_91 (fun H1 locs1 hw9 hz oq hS => ?_)
    have nb1 := hw9
    replace hwk := fun (z : Nat) hz => (oq z (by omega)).trans (hwk z hz)
    refine lv_dup hx hb dX4_any_92 rfl ?_
    refine lv_iconst (v := nI 3) hx hb dX4_any_93 (by decide) ?_
    refine lv_iload hx hb dX4_any_94 (lv_at hl 0 rfl) ?_
    refine q_iast hx hb hK nb1 3 (rfl) (by omega) (by decide) hS (hA _ (by omega)) dX4_any_96 (fun H1 locs1 hw9 hz oq hS => ?_)
    have nb1 := hw9
    replace hwk := fun (z : Nat) hz => (oq z (by omega)).trans (hwk z hz)
    refine lv_dup hx hb dX4_any_97 rfl ?_
    refine lv_iconst (v := nI 4) hx hb dX4_any_98 (by decide) ?_
    refine lv_iload_n hx hb dX4_any_99 rfl (lv_at hl 2 rfl) ?_
    refine q_iast hx hb hK nb1 4 (rfl) (by omega) (by decide) hS (hA _ (by omega)) dX4_any_100 (fun H1 locs1 hw9 hz oq hS => ?_)
    have nb1 := hw9
    replace hwk := fun (z : Nat) hz => (oq z (by omega)).trans (hwk z hz)
    refine lv_astore (lv' := [(6, .ref b1), (5, .int (nI (max k1 (min 100 (k1 + k3))))), (4, .int (nI (min k1 (min 100 (k1 + k3))))), (3, .int (nI k4)), (2, .int (nI (min 100 (k1 + k3)))), (1, .int (nI k1)), (0, .ref o)]) hx hb dX4_any_101 hl (by decide) rfl (fun ls hl => ?_)
    refine lv_iload hx hb dX4_any_103 (lv_at hl 2 rfl) ?_
    refine lv_iload hx hb dX4_any_105 (lv_at hl 1 rfl) ?_
    refine lv_icmp_ne (tgt := 126) hx hb dX4_any_107 (by decide) (fun c107 => ?_) (fun c107 => ?_)
    · skip
      have c107 : ¬ (min k1 (min 100 (k1 + k3)) = max k1 (min 100 (k1 + k3))) := fun q9 => c107 ((nc_eq (a := min k1 (min 100 (k1 + k3))) (b := max k1 (min 100 (k1 + k3))) (by omega) (by omega)).mpr q9)
      refine lv_aload hx hb dX4_any_126 (lv_at hl 0 rfl) ?_
      exact W.aret (v := .ref b1) hx hb hr (Or.inr ⟨_, rfl⟩) (Or.inr ⟨_, rfl⟩) (fun t ht _ => ⟨⟨(), b1, rfl, trivial, by dsimp only; rw [ht]; exact ⟨(min k1 (min 100 (k1 + k3))), (max k1 (min 100 (k1 + k3))), k4, by omega, by omega, by omega, by omega, nb1.outN (by intro j hj; first | exact any_ne (by omega) (by omega) hj | exact any_eq (by omega) hj), hw.old hwk⟩⟩, hS.F ht⟩) hS.2.2 dX4_any_128
    · skip
      have c107 : min k1 (min 100 (k1 + k3)) = max k1 (min 100 (k1 + k3)) := (nc_eq (a := min k1 (min 100 (k1 + k3))) (b := max k1 (min 100 (k1 + k3))) (by omega) (by omega)).mp c107
      refine lv_aload hx hb dX4_any_110 (lv_at hl 0 rfl) ?_
      refine lv_iconst (v := nI 0) hx hb dX4_any_112 (by decide) ?_
      refine lv_iconst (v := nI 2) hx hb dX4_any_113 (by decide) ?_
      refine lv_iload hx hb dX4_any_114 (lv_at hl 2 rfl) ?_
      refine lv_imul hx hb dX4_any_116 ?_
      rw [pk_mul]
      refine q_iast hx hb hK nb1 0 (rfl) (by omega) (by decide) hS (hA _ (by omega)) dX4_any_117 (fun H1 locs1 hw9 hz oq hS => ?_)
      have nb1 := hw9
      replace hwk := fun (z : Nat) hz => (oq z (by omega)).trans (hwk z hz)
      refine lv_aload hx hb dX4_any_118 (lv_at hl 0 rfl) ?_
      refine lv_iconst (v := nI 1) hx hb dX4_any_120 (by decide) ?_
      refine lv_iconst (v := nI 2) hx hb dX4_any_121 (by decide) ?_
      refine lv_iload hx hb dX4_any_122 (lv_at hl 2 rfl) ?_
      refine lv_imul hx hb dX4_any_124 ?_
      rw [pk_mul]
      refine q_iast hx hb hK nb1 1 (rfl) (by omega) (by decide) hS (hA _ (by omega)) dX4_any_125 (fun H1 locs1 hw9 hz oq hS => ?_)
      have nb1 := hw9
      replace hwk := fun (z : Nat) hz => (oq z (by omega)).trans (hwk z hz)
      refine lv_aload hx hb dX4_any_126 (lv_at hl 0 rfl) ?_
      exact W.aret (v := .ref b1) hx hb hr (Or.inr ⟨_, rfl⟩) (Or.inr ⟨_, rfl⟩) (fun t ht _ => ⟨⟨(), b1, rfl, trivial, by dsimp only; rw [ht]; exact ⟨(min k1 (min 100 (k1 + k3))), (max k1 (min 100 (k1 + k3))), k4, by omega, by omega, by omega, by omega, nb1.outN (by intro j hj; first | exact any_ne (by omega) (by omega) hj | exact any_eq (by omega) hj), hw.old hwk⟩⟩, hS.F ht⟩) hS.2.2 dX4_any_128
  · skip
    have c12 : k2 = 0 := (nc_eq (a := k2) (b := 0) (by omega) (by omega)).mp c12
    refine lv_aload_n hx hb dX4_any_15 rfl (lv_at hl 1 rfl) ?_
    refine lv_bipush (v := nI 101) hx hb dX4_any_16 (by decide) ?_
    refine va_calli (va_runV (As := [.int (nI 101)]) (rest := []) ⟨hx, hb, hml, hown, hts⟩ (conX4_draw l D T ad o sc N sf (dr + 1 + 1) F V sr C L U la vv (by omega) (by omega) 101 (by omega) (by omega)) (cwV 1 hts gX4_any_X4_draw rfl rfl rfl (by decide +kernel) ⟨Nat.le_of_ble_eq_true rfl, Nat.le_of_ble_eq_true rfl⟩) (preV hK hw.ob rfl hw) rfl rfl hl.1 rfl (lv_room (Nat.le_of_ble_eq_true rfl)) dX4_any_18 ⟨Nat.le_of_ble_eq_true rfl, Nat.le_of_ble_eq_true rfl⟩) hS (fun q _ h9 => (by have h8 : q = o := h9; rw [h8]; exact hA_o)) (fun q h9 => (by have h8 : q = o := h9; rw [h8]; exact hA_o)) (fun r u t H1 locs1 ht hvm hw9 hB hz1 hk1 hS => ?_)
    try dsimp only at hB
    rw [ht] at hB
    obtain ⟨k3, hk3, rfl⟩ := hw9
    replace hw := hB
    refine lv_goto (tgt := 37) hx hb dX4_any_21 (by decide) ?_
    refine lv_istore_n (lv' := [(2, .int (nI k3)), (1, .int (nI k1)), (0, .ref o)]) hx hb dX4_any_37 rfl hl (by decide) rfl (fun ls hl => ?_)
    refine lv_aload_n hx hb dX4_any_38 rfl (lv_at hl 2 rfl) ?_
    refine lv_iconst (v := nI 4) hx hb dX4_any_39 (by decide) ?_
    refine va_calli (va_runV (As := [.int (nI 4)]) (rest := []) ⟨hx, hb, hml, hown, hts⟩ (conX4_draw l D T ad o sc N sf (dr + 1 + 1 + 1) F V sr C L U la vv (by omega) (by omega) 4 (by omega) (by omega)) (cwV 1 hts gX4_any_X4_draw rfl rfl rfl (by decide +kernel) ⟨Nat.le_of_ble_eq_true rfl, Nat.le_of_ble_eq_true rfl⟩) (preV hK hw.ob rfl hw) rfl rfl hl.1 rfl (lv_room (Nat.le_of_ble_eq_true rfl)) dX4_any_40 ⟨Nat.le_of_ble_eq_true rfl, Nat.le_of_ble_eq_true rfl⟩) hS (fun q _ h9 => (by have h8 : q = o := h9; rw [h8]; exact hA_o)) (fun q h9 => (by have h8 : q = o := h9; rw [h8]; exact hA_o)) (fun r u t H1 locs1 ht hvm hw9 hB hz1 hk1 hS => ?_)
    try dsimp only at hB
    rw [ht] at hB
    obtain ⟨k4, hk4, rfl⟩ := hw9
    replace hw := hB
    refine lv_istore_n (lv' := [(3, .int (nI k4)), (2, .int (nI k3)), (1, .int (nI k1)), (0, .ref o)]) hx hb dX4_any_43 rfl hl (by decide) rfl (fun ls hl => ?_)
    refine lv_iload_n hx hb dX4_any_44 rfl (lv_at hl 2 rfl) ?_
    refine lv_iload_n hx hb dX4_any_45 rfl (lv_at hl 1 rfl) ?_
    refine va_mmin hx hb (hml.trans hl.1.symm) hown (hts (.methodLink RX4 66 Lib.Math.min.name) (by decide +kernel)) (hts (.static Lib.Math.min.name) (by decide +kernel)) (hts (.initialized "java/lang/Math") (by decide +kernel)) (hts (.code Lib.Math.min.name Lib.Math.min.code 2 (some .int)) (by decide +kernel)) (Nat.le_of_ble_eq_true rfl) (Nat.le_of_ble_eq_true rfl) (Nat.le_of_ble_eq_true rfl) (Nat.le_of_ble_eq_true rfl) dX4_any_46 ?_
    refine W.eq (g2 := F0 m 49 ls [.int (jmin (nI k1) (nI k3))]) rfl ?_
    rw [jmin_nat (a := k1) (b := k3) (by omega) (by omega)]
    refine lv_istore (lv' := [(4, .int (nI (min k1 k3))), (3, .int (nI k4)), (2, .int (nI k3)), (1, .int (nI k1)), (0, .ref o)]) hx hb dX4_any_49 hl (by decide) rfl (fun ls hl => ?_)
    refine lv_iload_n hx hb dX4_any_51 rfl (lv_at hl 3 rfl) ?_
    refine lv_iload_n hx hb dX4_any_52 rfl (lv_at hl 2 rfl) ?_
    refine va_mmax hx hb (hml.trans hl.1.symm) hown (hts (.methodLink RX4 71 Lib.Math.max.name) (by decide +kernel)) (hts (.static Lib.Math.max.name) (by decide +kernel)) (hts (.initialized "java/lang/Math") (by decide +kernel)) (hts (.code Lib.Math.max.name Lib.Math.max.code 2 (some .int)) (by decide +kernel)) (Nat.le_of_ble_eq_true rfl) (Nat.le_of_ble_eq_true rfl) (Nat.le_of_ble_eq_true rfl) (Nat.le_of_ble_eq_true rfl) dX4_any_53 ?_
    refine W.eq (g2 := F0 m 56 ls [.int (jmax (nI k1) (nI k3))]) rfl ?_
    rw [jmax_nat (a := k1) (b := k3) (by omega) (by omega)]
    refine lv_istore (lv' := [(5, .int (nI (max k1 k3))), (4, .int (nI (min k1 k3))), (3, .int (nI k4)), (2, .int (nI k3)), (1, .int (nI k1)), (0, .ref o)]) hx hb dX4_any_56 hl (by decide) rfl (fun ls hl => ?_)
    refine lv_iconst (v := nI 5) hx hb dX4_any_58 (by decide) ?_
    obtain ⟨b1, hb1⟩ : ∃ z : Nat, z = H1.size := ⟨_, rfl⟩
    have ln_b1 : s.heap.size ≤ b1 := by have h8 := hS.1; omega
    refine q_newi hx hb (hts (.arrayClass .int) (by decide +kernel)) hK 5 rfl (by decide) (by show _ ≤ 1; omega) (by show _ ≤ 5; omega) hS dX4_any_59 (fun H1 hw9 z1 o1 hS => ?_)
    rw [← hb1] at hw9 ⊢
    have nb1 := hw9
    have sb1 : H1.size = b1 + 1 := by omega
    have hwk := o1
    have hlk9 := hb1
    refine lv_dup hx hb dX4_any_61 rfl ?_
    refine lv_iconst (v := nI 0) hx hb dX4_any_62 (by decide) ?_
    refine lv_iconst (v := nI 2) hx hb dX4_any_63 (by decide) ?_
    refine lv_iload hx hb dX4_any_64 (lv_at hl 1 rfl) ?_
    refine lv_imul hx hb dX4_any_66 ?_
    rw [pk_mul]
    refine lv_iconst (v := nI 1) hx hb dX4_any_67 (by decide) ?_
    refine lv_iadd hx hb dX4_any_68 ?_
    rw [nI_add]
    refine lv_iload_n hx hb dX4_any_69 rfl (lv_at hl 2 rfl) ?_
    refine lv_iconst (v := nI 2) hx hb dX4_any_70 (by decide) ?_
    refine lv_irem hx hb dX4_any_71 (by decide) ?_
    rw [pk_rem (a := k4) (d := 2) (by omega) (by omega) (by omega)]
    refine lv_isub hx hb dX4_any_72 ?_
    rw [pk_sub (a := (2 * (min k1 k3)) + 1) (b := k4 % 2) (by omega)]
    refine q_iast hx hb hK nb1 0 (rfl) (by omega) (by decide) hS (hA _ (by omega)) dX4_any_73 (fun H1 locs1 hw9 hz oq hS => ?_)
    have nb1 := hw9
    replace hwk := fun (z : Nat) hz => (oq z (by omega)).trans (hwk z hz)
    refine lv_dup hx hb dX4_any_74 rfl ?_
    refine lv_iconst (v := nI 1) hx hb dX4_any_75 (by decide) ?_
    refine lv_iconst (v := nI 2) hx hb dX4_any_76 (by decide) ?_
    refine lv_iload hx hb dX4_any_77 (lv_at hl 0 rfl) ?_
    refine lv_imul hx hb dX4_any_79 ?_
    rw [pk_mul]
    refine lv_iconst (v := nI 1) hx hb dX4_any_80 (by decide) ?_
    refine lv_isub hx hb dX4_any_81 ?_
    refine lv_iload_n hx hb dX4_any_82 rfl (lv_at hl 2 rfl) ?_
    refine lv_iconst (v := nI 2) hx hb dX4_any_83 (by decide) ?_
    refine lv_idiv hx hb dX4_any_84 (by decide) ?_
    rw [pk_div (a := k4) (d := 2) (by omega) (by omega) (by omega)]
    refine lv_iadd hx hb dX4_any_85 ?_
    refine q_iast hx hb hK nb1 1 (rfl) (by omega) (by decide) hS (hA _ (by omega)) dX4_any_86 (fun H1 locs1 hw9 hz oq hS => ?_)
    have nb1 := hw9
    replace hwk := fun (z : Nat) hz => (oq z (by omega)).trans (hwk z hz)
    refine lv_dup hx hb dX4_any_87 rfl ?_
    refine lv_iconst (v := nI 2) hx hb dX4_any_88 (by decide) ?_
    refine lv_iload hx hb dX4_any_89 (lv_at hl 1 rfl) ?_
    refine q_iast hx hb hK nb1 2 (rfl) (by omega) (by decide) hS (hA _ (by omega)) dX4_any_91 (fun H1 locs1 hw9 hz oq hS => ?_)
    have nb1 := hw9
    replace hwk := fun (z : Nat) hz => (oq z (by omega)).trans (hwk z hz)
    refine lv_dup hx hb dX4_any_92 rfl ?_
    refine lv_iconst (v := nI 3) hx hb dX4_any_93 (by decide) ?_
    refine lv_iload hx hb dX4_any_94 (lv_at hl 0 rfl) ?_
    refine q_iast hx hb hK nb1 3 (rfl) (by omega) (by decide) hS (hA _ (by omega)) dX4_any_96 (fun H1 locs1 hw9 hz oq hS => ?_)
    have nb1 := hw9
    replace hwk := fun (z : Nat) hz => (oq z (by omega)).trans (hwk z hz)
    refine lv_dup hx hb dX4_any_97 rfl ?_
    refine lv_iconst (v := nI 4) hx hb dX4_any_98 (by decide) ?_
    refine lv_iload_n hx hb dX4_any_99 rfl (lv_at hl 2 rfl) ?_
    refine q_iast hx hb hK nb1 4 (rfl) (by omega) (by decide) hS (hA _ (by omega)) dX4_any_100 (fun H1 locs1 hw9 hz oq hS => ?_)
    have nb1 := hw9
    replace hwk := fun (z : Nat) hz => (oq z (by omega)).trans (hwk z hz)
    refine lv_astore (lv' := [(6, .ref b1), (5, .int (nI (max k1 k3))), (4, .int (nI (min k1 k3))), (3, .int (nI k4)), (2, .int (nI k3)), (1, .int (nI k1)), (0, .ref o)]) hx hb dX4_any_101 hl (by decide) rfl (fun ls hl => ?_)
    refine lv_iload hx hb dX4_any_103 (lv_at hl 2 rfl) ?_
    refine lv_iload hx hb dX4_any_105 (lv_at hl 1 rfl) ?_
    refine lv_icmp_ne (tgt := 126) hx hb dX4_any_107 (by decide) (fun c107 => ?_) (fun c107 => ?_)
    · skip
      have c107 : ¬ (min k1 k3 = max k1 k3) := fun q9 => c107 ((nc_eq (a := min k1 k3) (b := max k1 k3) (by omega) (by omega)).mpr q9)
      refine lv_aload hx hb dX4_any_126 (lv_at hl 0 rfl) ?_
      exact W.aret (v := .ref b1) hx hb hr (Or.inr ⟨_, rfl⟩) (Or.inr ⟨_, rfl⟩) (fun t ht _ => ⟨⟨(), b1, rfl, trivial, by dsimp only; rw [ht]; exact ⟨(min k1 k3), (max k1 k3), k4, by omega, by omega, by omega, by omega, nb1.outN (by intro j hj; first | exact any_ne (by omega) (by omega) hj | exact any_eq (by omega) hj), hw.old hwk⟩⟩, hS.F ht⟩) hS.2.2 dX4_any_128
    · skip
      have c107 : min k1 k3 = max k1 k3 := (nc_eq (a := min k1 k3) (b := max k1 k3) (by omega) (by omega)).mp c107
      refine lv_aload hx hb dX4_any_110 (lv_at hl 0 rfl) ?_
      refine lv_iconst (v := nI 0) hx hb dX4_any_112 (by decide) ?_
      refine lv_iconst (v := nI 2) hx hb dX4_any_113 (by decide) ?_
      refine lv_iload hx hb dX4_any_114 (lv_at hl 2 rfl) ?_
      refine lv_imul hx hb dX4_any_116 ?_
      rw [pk_mul]
      refine q_iast hx hb hK nb1 0 (rfl) (by omega) (by decide) hS (hA _ (by omega)) dX4_any_117 (fun H1 locs1 hw9 hz oq hS => ?_)
      have nb1 := hw9
      replace hwk := fun (z : Nat) hz => (oq z (by omega)).trans (hwk z hz)
      refine lv_aload hx hb dX4_any_118 (lv_at hl 0 rfl) ?_
      refine lv_iconst (v := nI 1) hx hb dX4_any_120 (by decide) ?_
      refine lv_iconst (v := nI 2) hx hb dX4_any_121 (by decide) ?_
      refine lv_iload hx hb dX4_any_122 (lv_at hl 2 rfl) ?_
      refine lv_imul hx hb dX4_any_124 ?_
      rw [pk_mul]
      refine q_iast hx hb hK nb1 1 (rfl) (by omega) (by decide) hS (hA _ (by omega)) dX4_any_125 (fun H1 locs1 hw9 hz oq hS => ?_)
      have nb1 := hw9
      replace hwk := fun (z : Nat) hz => (oq z (by omega)).trans (hwk z hz)
      refine lv_aload hx hb dX4_any_126 (lv_at hl 0 rfl) ?_
      exact W.aret (v := .ref b1) hx hb hr (Or.inr ⟨_, rfl⟩) (Or.inr ⟨_, rfl⟩) (fun t ht _ => ⟨⟨(), b1, rfl, trivial, by dsimp only; rw [ht]; exact ⟨(min k1 k3), (max k1 k3), k4, by omega, by omega, by omega, by omega, nb1.outN (by intro j hj; first | exact any_ne (by omega) (by omega) hj | exact any_eq (by omega) hj), hw.old hwk⟩⟩, hS.F ht⟩) hS.2.2 dX4_any_128
