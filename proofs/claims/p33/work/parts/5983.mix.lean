/-! STONES: MIX -/
theorem mix_0 {x y : Int32} {k : Nat} (h : k = 0) : mixV x y k = x + y := by
  unfold mixV
  rw [if_pos h]
theorem mix_1a {x y : Int32} {k : Nat} (h : k = 1) (c : y ≤ x) : mixV x y k = y := by
  unfold mixV jmin
  rw [if_neg (by omega), if_pos h]
  by_cases c2 : y < x
  · rw [if_pos c2]
  · rw [if_neg c2]
    rw [Int32.lt_iff_toInt_lt] at c2
    rw [Int32.le_iff_toInt_le] at c
    exact Int32.toInt_inj.mp (by omega)
theorem mix_1b {x y : Int32} {k : Nat} (h : k = 1) (c : ¬ y ≤ x) : mixV x y k = x := by
  unfold mixV jmin
  rw [if_neg (by omega), if_pos h, if_neg fun q => c (Int32.le_of_lt q)]
theorem mix_2a {x y : Int32} {k : Nat} (h : k = 2) (c : y ≤ x) : mixV x y k = x := by
  unfold mixV jmax
  rw [if_neg (by omega), if_neg (by omega), if_pos h, if_neg]
  rw [Int32.lt_iff_toInt_lt]
  rw [Int32.le_iff_toInt_le] at c
  omega
theorem mix_2b {x y : Int32} {k : Nat} (h : k = 2) (c : ¬ y ≤ x) : mixV x y k = y := by
  unfold mixV jmax
  rw [if_neg (by omega), if_neg (by omega), if_pos h, if_pos]
  rw [Int32.lt_iff_toInt_lt]
  rw [Int32.le_iff_toInt_le] at c
  omega
theorem mix_3 {x y : Int32} {k : Nat} (h : k = 3) : mixV x y k = x - y := by
  unfold mixV
  rw [if_neg (by omega), if_neg (by omega), if_neg (by omega), if_pos h]
theorem mix_4 {x y : Int32} {k : Nat} (h : k ≤ 4) (h0 : ¬ k = 0) (h1 : ¬ k = 1) (h2 : ¬ k = 2) (h3 : ¬ k = 3) : mixV x y k = x * y / nI 100 := by
  unfold mixV
  rw [if_neg h0, if_neg h1, if_neg h2, if_neg h3]
theorem mix_fn {U V : Nat → Nat → Int32} {to one other k : Nat} (h1 : one < 5) (h2 : other < 5) (h : ∀ f g : Nat, f < 5 → g < 201 → U f g = V f g ∧ inL (V f g)) : ∀ g : Nat, g < 201 → rowP (fun g => kepS (mixV (U one g) (U other g) k)) 201 g = mxV V to one other k 201 g ∧ inL (mxV V to one other k 201 g) := by
  intro g hg
  rw [mxV_h V to one other k g hg, rowP_at hg, (h one g h1 hg).1, (h other g h2 hg).1]
  exact ⟨rfl, kepS_in _⟩
set_option maxHeartbeats 4000000 in
set_option maxRecDepth 100000 in
theorem conX4_mix (l : Launch) (D : va_G) (T : Nat → ClassId) (ad : Nat → Nat) (o sc N : Nat) (sf : Nat → Int32) (d : Nat) (hN : N < 2 ^ 30) (hd : d + 20 < 2 ^ 30) : Met l yX4_mix wsX4_mix ({ frames := 3, cells := 1, slots := 201, locals := 71 }) (cP D T [.ref o] (fun H => ST D T ad o sc N sf d H)) (va_Qi (fun (r : Int32) (_ : Unit) => r = nI 1) (fun _ t => ST D T ad o sc N sf (d + 10) t.heap) (fun z : Nat => o ≤ z)) 1 201 (fun z : Nat => o ≤ z) := by
  refine Met.ofW (cc := cX4_mix) (maxL := 9) (ret := (some .boolean)) (by decide) rfl ?_
  intro p e s m args below meth c s₁ B hml hv9
  obtain ⟨rfl, hK, ⟨dr, F, V, sr, C, L, U, la, vv, hdr, ho9, hw, hinv⟩⟩ := hv9
  have hx := B.exec
  have hb := B.bytes
  have hr := B.returns
  have hts := atoms_spec (ws := wsX4_mix) B.pre
  have hown : s.vm.findClass RX4 = some m.cls := findClass_of_methodNamed B.named
  have hlocks := B.notSynchronized
  have hin4 : ∀ w ∈ wsX40, w ∈ wsX4_mix := by decide +kernel
  generalize hAe : (fun z : Nat => o ≤ z) = A
  have hA : ∀ z : Nat, o ≤ z → A z := fun z h9 => by subst hAe; exact h9
  have hS : va_S A s.heap s.heap [] := va_S.rf
  have hl := lv_entry ([.ref o]) (n := 9) (Nat.le_of_ble_eq_true rfl)
  rw [lg_entry_eq]
  generalize (lg_sl ([.ref o]) ++ List.replicate (9 - (lg_sl ([.ref o])).length) Slot.unset).toArray = ls at hl ⊢
  have hl : lv_has ls 9 [(0, .ref o)] := hl
  have hA_o : A o := hA o (Nat.le_refl _)
  have hlt9 := hw.lt
  refine lv_aload_n hx hb dX4_mix_0 rfl (lv_at hl 0 rfl) ?_
  refine lv_iconst (v := nI 5) hx hb dX4_mix_1 (by decide) ?_
  refine va_calli (va_runV (As := [.int (nI 5)]) (rest := []) ⟨hx, hb, hml, hown, hts⟩ (conX4_draw l D T ad o sc N sf dr F V sr C L U la vv (by omega) (by omega) 5 (by omega) (by omega)) (cwV 1 hts gX4_mix_X4_draw rfl rfl rfl (by decide +kernel) ⟨Nat.le_of_ble_eq_true rfl, Nat.le_of_ble_eq_true rfl⟩) (preV hK hw.ob rfl hw) rfl rfl hl.1 rfl (lv_room (Nat.le_of_ble_eq_true rfl)) dX4_mix_2 ⟨Nat.le_of_ble_eq_true rfl, Nat.le_of_ble_eq_true rfl⟩) hS (fun q _ h9 => (by have h8 : q = o := h9; rw [h8]; exact hA_o)) (fun q h9 => (by have h8 : q = o := h9; rw [h8]; exact hA_o)) (fun r u t H1 locs1 ht hvm hw9 hB hz1 hk1 hS => ?_)
  try dsimp only at hB
  rw [ht] at hB
  obtain ⟨k1, hk1, rfl⟩ := hw9
  replace hw := hB
  refine lv_istore_n (lv' := [(1, .int (nI k1)), (0, .ref o)]) hx hb dX4_mix_5 rfl hl (by decide) rfl (fun ls hl => ?_)
  refine lv_aload_n hx hb dX4_mix_6 rfl (lv_at hl 1 rfl) ?_
  refine lv_iconst (v := nI 5) hx hb dX4_mix_7 (by decide) ?_
  refine va_calli (va_runV (As := [.int (nI 5)]) (rest := []) ⟨hx, hb, hml, hown, hts⟩ (conX4_draw l D T ad o sc N sf (dr + 1) F V sr C L U la vv (by omega) (by omega) 5 (by omega) (by omega)) (cwV 1 hts gX4_mix_X4_draw rfl rfl rfl (by decide +kernel) ⟨Nat.le_of_ble_eq_true rfl, Nat.le_of_ble_eq_true rfl⟩) (preV hK hw.ob rfl hw) rfl rfl hl.1 rfl (lv_room (Nat.le_of_ble_eq_true rfl)) dX4_mix_8 ⟨Nat.le_of_ble_eq_true rfl, Nat.le_of_ble_eq_true rfl⟩) hS (fun q _ h9 => (by have h8 : q = o := h9; rw [h8]; exact hA_o)) (fun q h9 => (by have h8 : q = o := h9; rw [h8]; exact hA_o)) (fun r u t H1 locs1 ht hvm hw9 hB hz1 hk1 hS => ?_)
  try dsimp only at hB
  rw [ht] at hB
  obtain ⟨k2, hk2, rfl⟩ := hw9
  replace hw := hB
  refine lv_istore_n (lv' := [(2, .int (nI k2)), (1, .int (nI k1)), (0, .ref o)]) hx hb dX4_mix_11 rfl hl (by decide) rfl (fun ls hl => ?_)
  refine lv_aload_n hx hb dX4_mix_12 rfl (lv_at hl 2 rfl) ?_
  refine lv_iconst (v := nI 5) hx hb dX4_mix_13 (by decide) ?_
  refine va_calli (va_runV (As := [.int (nI 5)]) (rest := []) ⟨hx, hb, hml, hown, hts⟩ (conX4_draw l D T ad o sc N sf (dr + 1 + 1) F V sr C L U la vv (by omega) (by omega) 5 (by omega) (by omega)) (cwV 1 hts gX4_mix_X4_draw rfl rfl rfl (by decide +kernel) ⟨Nat.le_of_ble_eq_true rfl, Nat.le_of_ble_eq_true rfl⟩) (preV hK hw.ob rfl hw) rfl rfl hl.1 rfl (lv_room (Nat.le_of_ble_eq_true rfl)) dX4_mix_14 ⟨Nat.le_of_ble_eq_true rfl, Nat.le_of_ble_eq_true rfl⟩) hS (fun q _ h9 => (by have h8 : q = o := h9; rw [h8]; exact hA_o)) (fun q h9 => (by have h8 : q = o := h9; rw [h8]; exact hA_o)) (fun r u t H1 locs1 ht hvm hw9 hB hz1 hk1 hS => ?_)
  try dsimp only at hB
  rw [ht] at hB
  obtain ⟨k3, hk3, rfl⟩ := hw9
  replace hw := hB
  refine lv_istore_n (lv' := [(3, .int (nI k3)), (2, .int (nI k2)), (1, .int (nI k1)), (0, .ref o)]) hx hb dX4_mix_17 rfl hl (by decide) rfl (fun ls hl => ?_)
  refine lv_aload_n hx hb dX4_mix_18 rfl (lv_at hl 3 rfl) ?_
  refine lv_iconst (v := nI 5) hx hb dX4_mix_19 (by decide) ?_
  refine va_calli (va_runV (As := [.int (nI 5)]) (rest := []) ⟨hx, hb, hml, hown, hts⟩ (conX4_draw l D T ad o sc N sf (dr + 1 + 1 + 1) F V sr C L U la vv (by omega) (by omega) 5 (by omega) (by omega)) (cwV 1 hts gX4_mix_X4_draw rfl rfl rfl (by decide +kernel) ⟨Nat.le_of_ble_eq_true rfl, Nat.le_of_ble_eq_true rfl⟩) (preV hK hw.ob rfl hw) rfl rfl hl.1 rfl (lv_room (Nat.le_of_ble_eq_true rfl)) dX4_mix_20 ⟨Nat.le_of_ble_eq_true rfl, Nat.le_of_ble_eq_true rfl⟩) hS (fun q _ h9 => (by have h8 : q = o := h9; rw [h8]; exact hA_o)) (fun q h9 => (by have h8 : q = o := h9; rw [h8]; exact hA_o)) (fun r u t H1 locs1 ht hvm hw9 hB hz1 hk1 hS => ?_)
  try dsimp only at hB
  rw [ht] at hB
  obtain ⟨k4, hk4, rfl⟩ := hw9
  replace hw := hB
  refine lv_istore (lv' := [(4, .int (nI k4)), (3, .int (nI k3)), (2, .int (nI k2)), (1, .int (nI k1)), (0, .ref o)]) hx hb dX4_mix_23 hl (by decide) rfl (fun ls hl => ?_)
  refine lv_sipush (v := nI 201) hx hb dX4_mix_25 (by decide) ?_
  obtain ⟨Hw, hHw⟩ : ∃ z : Heap, z = H1 := ⟨_, rfl⟩
  obtain ⟨b1, hb1⟩ : ∃ z : Nat, z = H1.size := ⟨_, rfl⟩
  have ln_b1 : s.heap.size ≤ b1 := by have h8 := hS.1; omega
  have lw_b1 : Hw.size ≤ b1 := by rw [hHw]; omega
  refine q_newi hx hb (hts (.arrayClass .int) (by decide +kernel)) hK 201 rfl (by decide) (by show _ ≤ 1; omega) (by show _ ≤ 201; omega) hS dX4_mix_28 (fun H1 hw9 z1 o1 hS => ?_)
  rw [← hb1] at hw9 ⊢
  have nb1 := hw9
  have sb1 : H1.size = b1 + 1 := by omega
  rw [← hHw] at hw
  have hwk : ∀ z : Nat, z < Hw.size → H1[z]? = Hw[z]? := by rw [hHw]; exact fun z hz => o1 z (by omega)
  refine lv_astore (lv' := [(5, .ref b1), (4, .int (nI k4)), (3, .int (nI k3)), (2, .int (nI k2)), (1, .int (nI k1)), (0, .ref o)]) hx hb dX4_mix_30 hl (by decide) rfl (fun ls hl => ?_)
  refine lv_iconst (v := nI 0) hx hb dX4_mix_32 (by decide) ?_
  refine lv_istore (lv' := [(6, .int (nI 0)), (5, .ref b1), (4, .int (nI k4)), (3, .int (nI k3)), (2, .int (nI k2)), (1, .int (nI k1)), (0, .ref o)]) hx hb dX4_mix_33 hl (by decide) rfl (fun ls hl => ?_)
  refine q_for (fun (i : Nat) (H : Heap) (locs : List Loc) (ls : Array Slot) => va_S A s.heap H locs ∧ lv_has ls 9 [(6, .int (nI i)), (5, .ref b1), (4, .int (nI k4)), (3, .int (nI k3)), (2, .int (nI k2)), (1, .int (nI k1)), (0, .ref o)] ∧ pAt D H b1 (eN (T 1) 201 (rowP (fun g => kepS (mixV (U k2 g) (U k3 g) k4)) i)) ∧ ∀ z : Nat, z < Hw.size → H[z]? = Hw[z]?) (N := 201) 0 (by omega) ?_ ?_ ?_
  · skip
    have e1 : (eN (T 1) 201 zr0) = (eN (T 1) 201 (rowP (fun g => kepS (mixV (U k2 g) (U k3 g) k4)) 0)) := by (rw [rowP_0])
    exact ⟨hS, lv_sub hl [0, 1, 2, 3, 4, 5, 6] rfl, (by rw [← e1]; exact nb1), (by exact hwk)⟩
  · skip
    intro i H locs ls hi9 hin9 hnext
    obtain ⟨hS, hl, nb1, hwk⟩ := hin9
    refine lv_iload hx hb dX4_mix_35 (lv_at hl 0 rfl) ?_
    refine lv_sipush (v := nI 200) hx hb dX4_mix_37 (by decide) ?_
    refine lv_icmp_gt (tgt := 160) hx hb dX4_mix_40 (by decide) (fun c40 => ?_) (fun c40 => ?_)
    · skip
      have c40 : 200 < i := (nc_lt (a := 200) (b := i) (by omega) (by omega)).mp c40
      omega
    · skip
      have c40 : ¬ (200 < i) := fun q9 => c40 ((nc_lt (a := 200) (b := i) (by omega) (by omega)).mpr q9)
      refine lv_aload_n hx hb dX4_mix_43 rfl (lv_at hl 6 rfl) ?_
      refine q_get (v := .ref (o + 47)) hx hb hts hin4 hown hK (hw.ob.kept (hwk _ hw.ob.lt)) rfl 4 (by decide) (hts (.fieldLink RX4 23 "PuddingstoneLineLaw$Stones" "values" "[[I") (by decide +kernel)) (fun _ h9 => h9) rfl dX4_mix_44 ?_
      refine lv_iload_n hx hb dX4_mix_47 rfl (lv_at hl 4 rfl) ?_
      refine q_aald hx hb hK 5 rfl rfl (hw.vs.kept (hwk _ hw.vs.lt)) k2 (rfl) (by omega) (by decide) (b := vv k2) rfl dX4_mix_48 ?_
      refine lv_iload hx hb dX4_mix_49 (lv_at hl 0 rfl) ?_
      refine q_iald hx hb hK ((hw.u k2 (by omega)).2.kept (hwk _ (hw.u k2 (by omega)).2.lt)) i (rfl) (by omega) (by decide) dX4_mix_51 ?_
      refine lv_istore (lv' := [(7, .int ((U k2) i)), (6, .int (nI i)), (5, .ref b1), (4, .int (nI k4)), (3, .int (nI k3)), (2, .int (nI k2)), (1, .int (nI k1)), (0, .ref o)]) hx hb dX4_mix_52 hl (by decide) rfl (fun ls hl => ?_)
      refine lv_aload_n hx hb dX4_mix_54 rfl (lv_at hl 7 rfl) ?_
      refine q_get (v := .ref (o + 47)) hx hb hts hin4 hown hK (hw.ob.kept (hwk _ hw.ob.lt)) rfl 4 (by decide) (hts (.fieldLink RX4 23 "PuddingstoneLineLaw$Stones" "values" "[[I") (by decide +kernel)) (fun _ h9 => h9) rfl dX4_mix_55 ?_
      refine lv_iload_n hx hb dX4_mix_58 rfl (lv_at hl 4 rfl) ?_
      refine q_aald hx hb hK 5 rfl rfl (hw.vs.kept (hwk _ hw.vs.lt)) k3 (rfl) (by omega) (by decide) (b := vv k3) rfl dX4_mix_59 ?_
      refine lv_iload hx hb dX4_mix_60 (lv_at hl 1 rfl) ?_
      refine q_iald hx hb hK ((hw.u k3 (by omega)).2.kept (hwk _ (hw.u k3 (by omega)).2.lt)) i (rfl) (by omega) (by decide) dX4_mix_62 ?_
      refine lv_istore (lv' := [(8, .int ((U k3) i)), (7, .int ((U k2) i)), (6, .int (nI i)), (5, .ref b1), (4, .int (nI k4)), (3, .int (nI k3)), (2, .int (nI k2)), (1, .int (nI k1)), (0, .ref o)]) hx hb dX4_mix_63 hl (by decide) rfl (fun ls hl => ?_)
      refine lv_aload hx hb dX4_mix_65 (lv_at hl 3 rfl) ?_
      refine lv_iload hx hb dX4_mix_67 (lv_at hl 2 rfl) ?_
      refine lv_iload hx hb dX4_mix_69 (lv_at hl 4 rfl) ?_
      refine lv_if_ne (tgt := 82) hx hb dX4_mix_71 (by decide) (fun c71 => ?_) (fun c71 => ?_)
      · skip
        have c71 : ¬ (k4 = 0) := fun q9 => c71 ((nc_eq (a := k4) (b := 0) (by omega) (by omega)).mpr q9)
        refine lv_iload hx hb dX4_mix_82 (lv_at hl 4 rfl) ?_
        refine lv_iconst (v := nI 1) hx hb dX4_mix_84 (by decide) ?_
        refine lv_icmp_ne (tgt := 105) hx hb dX4_mix_85 (by decide) (fun c85 => ?_) (fun c85 => ?_)
        · skip
          have c85 : ¬ (k4 = 1) := fun q9 => c85 ((nc_eq (a := k4) (b := 1) (by omega) (by omega)).mpr q9)
          refine lv_iload hx hb dX4_mix_105 (lv_at hl 4 rfl) ?_
          refine lv_iconst (v := nI 2) hx hb dX4_mix_107 (by decide) ?_
          refine lv_icmp_ne (tgt := 128) hx hb dX4_mix_108 (by decide) (fun c108 => ?_) (fun c108 => ?_)
          · skip
            have c108 : ¬ (k4 = 2) := fun q9 => c108 ((nc_eq (a := k4) (b := 2) (by omega) (by omega)).mpr q9)
            refine lv_iload hx hb dX4_mix_128 (lv_at hl 4 rfl) ?_
            refine lv_iconst (v := nI 3) hx hb dX4_mix_130 (by decide) ?_
            refine lv_icmp_ne (tgt := 142) hx hb dX4_mix_131 (by decide) (fun c131 => ?_) (fun c131 => ?_)
            · skip
              have c131 : ¬ (k4 = 3) := fun q9 => c131 ((nc_eq (a := k4) (b := 3) (by omega) (by omega)).mpr q9)
              refine lv_iload hx hb dX4_mix_142 (lv_at hl 1 rfl) ?_
              refine lv_iload hx hb dX4_mix_144 (lv_at hl 0 rfl) ?_
              refine lv_imul hx hb dX4_mix_146 ?_
              refine lv_bipush (v := nI 100) hx hb dX4_mix_147 (by decide) ?_
              refine lv_idiv hx hb dX4_mix_149 (by decide) ?_
              refine vp_callSi (va_runS (As := [.int ((((U k2) i) * ((U k3) i)) / (nI 100))]) (rest := [.int (nI i), .ref b1]) ⟨hx, hb, hml, hown, hts⟩ (conX4_kept l D T ((((U k2) i) * ((U k3) i)) / (nI 100))) (va_cwS 1 hts gX4_mix_X4_kept rfl rfl rfl (by decide +kernel) ⟨Nat.le_of_ble_eq_true rfl, Nat.le_of_ble_eq_true rfl⟩) (preS hK trivial) rfl rfl hl.1 rfl (lv_room (Nat.le_of_ble_eq_true rfl)) dX4_mix_150 ⟨by show _ ≤ 1; omega, by show _ ≤ 201; omega⟩).run (fun r2 hr2 => ?_)
              rw [hr2]
              refine q_iast hx hb hK nb1 i (rfl) (by omega) (by decide) hS (hA _ (by omega)) dX4_mix_153 (fun H1 locs1 hw9 hz oq hS => ?_)
              have nb1 := hw9
              replace hwk := fun (z : Nat) (hz : z < Hw.size) => (oq z (by omega)).trans (hwk z hz)
              refine lv_iinc (v := nI (i + 1)) (lv' := [(6, .int (nI (i + 1))), (8, .int ((U k3) i)), (7, .int ((U k2) i)), (5, .ref b1), (4, .int (nI k4)), (3, .int (nI k3)), (2, .int (nI k2)), (1, .int (nI k1)), (0, .ref o)]) hx hb dX4_mix_154 hl (k := 2) rfl (inc_1 _) (by decide) rfl (fun ls hl => ?_)
              refine lv_goto (tgt := 35) hx hb dX4_mix_157 (by decide) ?_
              have e3 : (eN (T 1) 201 (upd (rowP (fun g => kepS (mixV (U k2 g) (U k3 g) k4)) i) i (kepS ((((U k2) i) * ((U k3) i)) / (nI 100))))) = (eN (T 1) 201 (rowP (fun g => kepS (mixV (U k2 g) (U k3 g) k4)) (i + 1))) := by (exact congrArg (eN (T 1) 201) (rowP_u (v := fun g => kepS (mixV (U k2 g) (U k3 g) k4)) (congrArg kepS (mix_4 (x := U k2 i) (y := U k3 i) (by omega) c71 c85 c108 c131).symm)))
              exact hnext _ _ _ ⟨hS, lv_sub hl [0, 3, 4, 5, 6, 7, 8] rfl, (by rw [← e3]; exact nb1), (by exact hwk)⟩
            · skip
              have c131 : k4 = 3 := (nc_eq (a := k4) (b := 3) (by omega) (by omega)).mp c131
              refine lv_iload hx hb dX4_mix_134 (lv_at hl 1 rfl) ?_
              refine lv_iload hx hb dX4_mix_136 (lv_at hl 0 rfl) ?_
              refine lv_isub hx hb dX4_mix_138 ?_
              refine lv_goto (tgt := 150) hx hb dX4_mix_139 (by decide) ?_
              refine vp_callSi (va_runS (As := [.int (((U k2) i) - ((U k3) i))]) (rest := [.int (nI i), .ref b1]) ⟨hx, hb, hml, hown, hts⟩ (conX4_kept l D T (((U k2) i) - ((U k3) i))) (va_cwS 1 hts gX4_mix_X4_kept rfl rfl rfl (by decide +kernel) ⟨Nat.le_of_ble_eq_true rfl, Nat.le_of_ble_eq_true rfl⟩) (preS hK trivial) rfl rfl hl.1 rfl (lv_room (Nat.le_of_ble_eq_true rfl)) dX4_mix_150 ⟨by show _ ≤ 1; omega, by show _ ≤ 201; omega⟩).run (fun r4 hr4 => ?_)
              rw [hr4]
              refine q_iast hx hb hK nb1 i (rfl) (by omega) (by decide) hS (hA _ (by omega)) dX4_mix_153 (fun H1 locs1 hw9 hz oq hS => ?_)
              have nb1 := hw9
              replace hwk := fun (z : Nat) (hz : z < Hw.size) => (oq z (by omega)).trans (hwk z hz)
              refine lv_iinc (v := nI (i + 1)) (lv' := [(6, .int (nI (i + 1))), (8, .int ((U k3) i)), (7, .int ((U k2) i)), (5, .ref b1), (4, .int (nI k4)), (3, .int (nI k3)), (2, .int (nI k2)), (1, .int (nI k1)), (0, .ref o)]) hx hb dX4_mix_154 hl (k := 2) rfl (inc_1 _) (by decide) rfl (fun ls hl => ?_)
              refine lv_goto (tgt := 35) hx hb dX4_mix_157 (by decide) ?_
              have e5 : (eN (T 1) 201 (upd (rowP (fun g => kepS (mixV (U k2 g) (U k3 g) k4)) i) i (kepS (((U k2) i) - ((U k3) i))))) = (eN (T 1) 201 (rowP (fun g => kepS (mixV (U k2 g) (U k3 g) k4)) (i + 1))) := by (exact congrArg (eN (T 1) 201) (rowP_u (v := fun g => kepS (mixV (U k2 g) (U k3 g) k4)) (congrArg kepS (mix_3 (x := U k2 i) (y := U k3 i) c131).symm)))
              exact hnext _ _ _ ⟨hS, lv_sub hl [0, 3, 4, 5, 6, 7, 8] rfl, (by rw [← e5]; exact nb1), (by exact hwk)⟩
          · skip
            have c108 : k4 = 2 := (nc_eq (a := k4) (b := 2) (by omega) (by omega)).mp c108
            refine lv_iload hx hb dX4_mix_111 (lv_at hl 1 rfl) ?_
            refine lv_iload hx hb dX4_mix_113 (lv_at hl 0 rfl) ?_
            refine lv_icmp_ge (tgt := 123) hx hb dX4_mix_115 (by decide) (fun c115 => ?_) (fun c115 => ?_)
            · skip
              refine lv_iload hx hb dX4_mix_123 (lv_at hl 1 rfl) ?_
              refine lv_goto (tgt := 150) hx hb dX4_mix_125 (by decide) ?_
              refine vp_callSi (va_runS (As := [.int ((U k2) i)]) (rest := [.int (nI i), .ref b1]) ⟨hx, hb, hml, hown, hts⟩ (conX4_kept l D T ((U k2) i)) (va_cwS 1 hts gX4_mix_X4_kept rfl rfl rfl (by decide +kernel) ⟨Nat.le_of_ble_eq_true rfl, Nat.le_of_ble_eq_true rfl⟩) (preS hK trivial) rfl rfl hl.1 rfl (lv_room (Nat.le_of_ble_eq_true rfl)) dX4_mix_150 ⟨by show _ ≤ 1; omega, by show _ ≤ 201; omega⟩).run (fun r6 hr6 => ?_)
              rw [hr6]
              refine q_iast hx hb hK nb1 i (rfl) (by omega) (by decide) hS (hA _ (by omega)) dX4_mix_153 (fun H1 locs1 hw9 hz oq hS => ?_)
              have nb1 := hw9
              replace hwk := fun (z : Nat) (hz : z < Hw.size) => (oq z (by omega)).trans (hwk z hz)
              refine lv_iinc (v := nI (i + 1)) (lv' := [(6, .int (nI (i + 1))), (8, .int ((U k3) i)), (7, .int ((U k2) i)), (5, .ref b1), (4, .int (nI k4)), (3, .int (nI k3)), (2, .int (nI k2)), (1, .int (nI k1)), (0, .ref o)]) hx hb dX4_mix_154 hl (k := 2) rfl (inc_1 _) (by decide) rfl (fun ls hl => ?_)
              refine lv_goto (tgt := 35) hx hb dX4_mix_157 (by decide) ?_
              have e7 : (eN (T 1) 201 (upd (rowP (fun g => kepS (mixV (U k2 g) (U k3 g) k4)) i) i (kepS ((U k2) i)))) = (eN (T 1) 201 (rowP (fun g => kepS (mixV (U k2 g) (U k3 g) k4)) (i + 1))) := by (exact congrArg (eN (T 1) 201) (rowP_u (v := fun g => kepS (mixV (U k2 g) (U k3 g) k4)) (congrArg kepS (mix_2a (x := U k2 i) (y := U k3 i) c108 c115).symm)))
              exact hnext _ _ _ ⟨hS, lv_sub hl [0, 3, 4, 5, 6, 7, 8] rfl, (by rw [← e7]; exact nb1), (by exact hwk)⟩
            · skip
              refine lv_iload hx hb dX4_mix_118 (lv_at hl 0 rfl) ?_
              refine lv_goto (tgt := 150) hx hb dX4_mix_120 (by decide) ?_
              refine vp_callSi (va_runS (As := [.int ((U k3) i)]) (rest := [.int (nI i), .ref b1]) ⟨hx, hb, hml, hown, hts⟩ (conX4_kept l D T ((U k3) i)) (va_cwS 1 hts gX4_mix_X4_kept rfl rfl rfl (by decide +kernel) ⟨Nat.le_of_ble_eq_true rfl, Nat.le_of_ble_eq_true rfl⟩) (preS hK trivial) rfl rfl hl.1 rfl (lv_room (Nat.le_of_ble_eq_true rfl)) dX4_mix_150 ⟨by show _ ≤ 1; omega, by show _ ≤ 201; omega⟩).run (fun r8 hr8 => ?_)
              rw [hr8]
              refine q_iast hx hb hK nb1 i (rfl) (by omega) (by decide) hS (hA _ (by omega)) dX4_mix_153 (fun H1 locs1 hw9 hz oq hS => ?_)
              have nb1 := hw9
              replace hwk := fun (z : Nat) (hz : z < Hw.size) => (oq z (by omega)).trans (hwk z hz)
              refine lv_iinc (v := nI (i + 1)) (lv' := [(6, .int (nI (i + 1))), (8, .int ((U k3) i)), (7, .int ((U k2) i)), (5, .ref b1), (4, .int (nI k4)), (3, .int (nI k3)), (2, .int (nI k2)), (1, .int (nI k1)), (0, .ref o)]) hx hb dX4_mix_154 hl (k := 2) rfl (inc_1 _) (by decide) rfl (fun ls hl => ?_)
              refine lv_goto (tgt := 35) hx hb dX4_mix_157 (by decide) ?_
              have e9 : (eN (T 1) 201 (upd (rowP (fun g => kepS (mixV (U k2 g) (U k3 g) k4)) i) i (kepS ((U k3) i)))) = (eN (T 1) 201 (rowP (fun g => kepS (mixV (U k2 g) (U k3 g) k4)) (i + 1))) := by (exact congrArg (eN (T 1) 201) (rowP_u (v := fun g => kepS (mixV (U k2 g) (U k3 g) k4)) (congrArg kepS (mix_2b (x := U k2 i) (y := U k3 i) c108 c115).symm)))
              exact hnext _ _ _ ⟨hS, lv_sub hl [0, 3, 4, 5, 6, 7, 8] rfl, (by rw [← e9]; exact nb1), (by exact hwk)⟩
        · skip
          have c85 : k4 = 1 := (nc_eq (a := k4) (b := 1) (by omega) (by omega)).mp c85
          refine lv_iload hx hb dX4_mix_88 (lv_at hl 1 rfl) ?_
          refine lv_iload hx hb dX4_mix_90 (lv_at hl 0 rfl) ?_
          refine lv_icmp_ge (tgt := 100) hx hb dX4_mix_92 (by decide) (fun c92 => ?_) (fun c92 => ?_)
          · skip
            refine lv_iload hx hb dX4_mix_100 (lv_at hl 0 rfl) ?_
            refine lv_goto (tgt := 150) hx hb dX4_mix_102 (by decide) ?_
            refine vp_callSi (va_runS (As := [.int ((U k3) i)]) (rest := [.int (nI i), .ref b1]) ⟨hx, hb, hml, hown, hts⟩ (conX4_kept l D T ((U k3) i)) (va_cwS 1 hts gX4_mix_X4_kept rfl rfl rfl (by decide +kernel) ⟨Nat.le_of_ble_eq_true rfl, Nat.le_of_ble_eq_true rfl⟩) (preS hK trivial) rfl rfl hl.1 rfl (lv_room (Nat.le_of_ble_eq_true rfl)) dX4_mix_150 ⟨by show _ ≤ 1; omega, by show _ ≤ 201; omega⟩).run (fun r10 hr10 => ?_)
            rw [hr10]
            refine q_iast hx hb hK nb1 i (rfl) (by omega) (by decide) hS (hA _ (by omega)) dX4_mix_153 (fun H1 locs1 hw9 hz oq hS => ?_)
            have nb1 := hw9
            replace hwk := fun (z : Nat) (hz : z < Hw.size) => (oq z (by omega)).trans (hwk z hz)
            refine lv_iinc (v := nI (i + 1)) (lv' := [(6, .int (nI (i + 1))), (8, .int ((U k3) i)), (7, .int ((U k2) i)), (5, .ref b1), (4, .int (nI k4)), (3, .int (nI k3)), (2, .int (nI k2)), (1, .int (nI k1)), (0, .ref o)]) hx hb dX4_mix_154 hl (k := 2) rfl (inc_1 _) (by decide) rfl (fun ls hl => ?_)
            refine lv_goto (tgt := 35) hx hb dX4_mix_157 (by decide) ?_
            have e11 : (eN (T 1) 201 (upd (rowP (fun g => kepS (mixV (U k2 g) (U k3 g) k4)) i) i (kepS ((U k3) i)))) = (eN (T 1) 201 (rowP (fun g => kepS (mixV (U k2 g) (U k3 g) k4)) (i + 1))) := by (exact congrArg (eN (T 1) 201) (rowP_u (v := fun g => kepS (mixV (U k2 g) (U k3 g) k4)) (congrArg kepS (mix_1a (x := U k2 i) (y := U k3 i) c85 c92).symm)))
            exact hnext _ _ _ ⟨hS, lv_sub hl [0, 3, 4, 5, 6, 7, 8] rfl, (by rw [← e11]; exact nb1), (by exact hwk)⟩
          · skip
            refine lv_iload hx hb dX4_mix_95 (lv_at hl 1 rfl) ?_
            refine lv_goto (tgt := 150) hx hb dX4_mix_97 (by decide) ?_
            refine vp_callSi (va_runS (As := [.int ((U k2) i)]) (rest := [.int (nI i), .ref b1]) ⟨hx, hb, hml, hown, hts⟩ (conX4_kept l D T ((U k2) i)) (va_cwS 1 hts gX4_mix_X4_kept rfl rfl rfl (by decide +kernel) ⟨Nat.le_of_ble_eq_true rfl, Nat.le_of_ble_eq_true rfl⟩) (preS hK trivial) rfl rfl hl.1 rfl (lv_room (Nat.le_of_ble_eq_true rfl)) dX4_mix_150 ⟨by show _ ≤ 1; omega, by show _ ≤ 201; omega⟩).run (fun r12 hr12 => ?_)
            rw [hr12]
            refine q_iast hx hb hK nb1 i (rfl) (by omega) (by decide) hS (hA _ (by omega)) dX4_mix_153 (fun H1 locs1 hw9 hz oq hS => ?_)
            have nb1 := hw9
            replace hwk := fun (z : Nat) (hz : z < Hw.size) => (oq z (by omega)).trans (hwk z hz)
            refine lv_iinc (v := nI (i + 1)) (lv' := [(6, .int (nI (i + 1))), (8, .int ((U k3) i)), (7, .int ((U k2) i)), (5, .ref b1), (4, .int (nI k4)), (3, .int (nI k3)), (2, .int (nI k2)), (1, .int (nI k1)), (0, .ref o)]) hx hb dX4_mix_154 hl (k := 2) rfl (inc_1 _) (by decide) rfl (fun ls hl => ?_)
            refine lv_goto (tgt := 35) hx hb dX4_mix_157 (by decide) ?_
            have e13 : (eN (T 1) 201 (upd (rowP (fun g => kepS (mixV (U k2 g) (U k3 g) k4)) i) i (kepS ((U k2) i)))) = (eN (T 1) 201 (rowP (fun g => kepS (mixV (U k2 g) (U k3 g) k4)) (i + 1))) := by (exact congrArg (eN (T 1) 201) (rowP_u (v := fun g => kepS (mixV (U k2 g) (U k3 g) k4)) (congrArg kepS (mix_1b (x := U k2 i) (y := U k3 i) c85 c92).symm)))
            exact hnext _ _ _ ⟨hS, lv_sub hl [0, 3, 4, 5, 6, 7, 8] rfl, (by rw [← e13]; exact nb1), (by exact hwk)⟩
      · skip
        have c71 : k4 = 0 := (nc_eq (a := k4) (b := 0) (by omega) (by omega)).mp c71
        refine lv_iload hx hb dX4_mix_74 (lv_at hl 1 rfl) ?_
        refine lv_iload hx hb dX4_mix_76 (lv_at hl 0 rfl) ?_
        refine lv_iadd hx hb dX4_mix_78 ?_
        refine lv_goto (tgt := 150) hx hb dX4_mix_79 (by decide) ?_
        refine vp_callSi (va_runS (As := [.int (((U k2) i) + ((U k3) i))]) (rest := [.int (nI i), .ref b1]) ⟨hx, hb, hml, hown, hts⟩ (conX4_kept l D T (((U k2) i) + ((U k3) i))) (va_cwS 1 hts gX4_mix_X4_kept rfl rfl rfl (by decide +kernel) ⟨Nat.le_of_ble_eq_true rfl, Nat.le_of_ble_eq_true rfl⟩) (preS hK trivial) rfl rfl hl.1 rfl (lv_room (Nat.le_of_ble_eq_true rfl)) dX4_mix_150 ⟨by show _ ≤ 1; omega, by show _ ≤ 201; omega⟩).run (fun r14 hr14 => ?_)
        rw [hr14]
        refine q_iast hx hb hK nb1 i (rfl) (by omega) (by decide) hS (hA _ (by omega)) dX4_mix_153 (fun H1 locs1 hw9 hz oq hS => ?_)
        have nb1 := hw9
        replace hwk := fun (z : Nat) (hz : z < Hw.size) => (oq z (by omega)).trans (hwk z hz)
        refine lv_iinc (v := nI (i + 1)) (lv' := [(6, .int (nI (i + 1))), (8, .int ((U k3) i)), (7, .int ((U k2) i)), (5, .ref b1), (4, .int (nI k4)), (3, .int (nI k3)), (2, .int (nI k2)), (1, .int (nI k1)), (0, .ref o)]) hx hb dX4_mix_154 hl (k := 2) rfl (inc_1 _) (by decide) rfl (fun ls hl => ?_)
        refine lv_goto (tgt := 35) hx hb dX4_mix_157 (by decide) ?_
        have e15 : (eN (T 1) 201 (upd (rowP (fun g => kepS (mixV (U k2 g) (U k3 g) k4)) i) i (kepS (((U k2) i) + ((U k3) i))))) = (eN (T 1) 201 (rowP (fun g => kepS (mixV (U k2 g) (U k3 g) k4)) (i + 1))) := by (exact congrArg (eN (T 1) 201) (rowP_u (v := fun g => kepS (mixV (U k2 g) (U k3 g) k4)) (congrArg kepS (mix_0 (x := U k2 i) (y := U k3 i) c71).symm)))
        exact hnext _ _ _ ⟨hS, lv_sub hl [0, 3, 4, 5, 6, 7, 8] rfl, (by rw [← e15]; exact nb1), (by exact hwk)⟩
  · skip
    intro H locs ls hin9
    obtain ⟨hS, hl, nb1, hwk⟩ := hin9
    refine lv_iload hx hb dX4_mix_35 (lv_at hl 0 rfl) ?_
    refine lv_sipush (v := nI 200) hx hb dX4_mix_37 (by decide) ?_
    refine lv_icmp_gt (tgt := 160) hx hb dX4_mix_40 (by decide) (fun c40 => ?_) (fun c40 => ?_)
    · skip
      have c40 : 200 < 201 := (nc_lt (a := 200) (b := 201) (by omega) (by omega)).mp c40
      refine lv_aload_n hx hb dX4_mix_160 rfl (lv_at hl 6 rfl) ?_
      refine q_get (v := .ref (o + 47)) hx hb hts hin4 hown hK (hw.ob.kept (hwk _ hw.ob.lt)) rfl 4 (by decide) (hts (.fieldLink RX4 23 "PuddingstoneLineLaw$Stones" "values" "[[I") (by decide +kernel)) (fun _ h9 => h9) rfl dX4_mix_161 ?_
      refine lv_iload_n hx hb dX4_mix_164 rfl (lv_at hl 5 rfl) ?_
      refine lv_aload hx hb dX4_mix_165 (lv_at hl 1 rfl) ?_
      refine q_aasta hx hb hK 5 1 (ty := .int) rfl rfl hK.2.1.2.2.2.1 (hw.vs.kept (hwk _ hw.vs.lt)) nb1 k1 rfl (by omega) (by decide) (hK.1.2 1 _ rfl).2 hS (hA _ (by omega)) dX4_mix_167 (fun H1 locs1 hw9 hz oq hS => ?_)
      replace hw := (hw.old hwk).setV (k := k1) (m := b1) (u := (rowP (fun g => kepS (mixV (U k2 g) (U k3 g) k4)) 201)) (by omega) (fun j hj => by have h8 := (hw.u j hj).2.lt; omega) nb1 hw9 oq
      replace nb1 := nb1.ne oq (by omega)
      refine lv_aload_n hx hb dX4_mix_168 rfl (lv_at hl 6 rfl) ?_
      refine q_get (v := .ref (ad 0)) hx hb hts hin4 hown hK hw.ob rfl 0 (by decide) (hts (.fieldLink RX4 10 "PuddingstoneLineLaw$Stones" "m" "LPuddingstoneLine;") (by decide +kernel)) (fun _ h9 => h9) rfl dX4_mix_169 ?_
      refine lv_iload_n hx hb dX4_mix_172 rfl (lv_at hl 5 rfl) ?_
      refine lv_iload_n hx hb dX4_mix_173 rfl (lv_at hl 4 rfl) ?_
      refine lv_iload_n hx hb dX4_mix_174 rfl (lv_at hl 3 rfl) ?_
      refine lv_iload hx hb dX4_mix_175 (lv_at hl 2 rfl) ?_
      refine va_calli (va_runV (As := [.int (nI k1), .int (nI k2), .int (nI k3), .int (nI k4)]) (rest := []) ⟨hx, hb, hml, hown, hts⟩ (conX3_mix l D T ad F V sr C k1 k2 k3 k4 (by omega) (by omega) (by omega) (by omega)) (cwV 4 hts gX4_mix_X3_mix rfl rfl rfl (by decide +kernel) ⟨Nat.le_of_ble_eq_true rfl, Nat.le_of_ble_eq_true rfl⟩) (preV hK hw.pl.o rfl hw.pl) rfl rfl hl.1 rfl (lv_room (Nat.le_of_ble_eq_true rfl)) dX4_mix_177 ⟨by show _ ≤ 1; omega, by show _ ≤ 201; omega⟩) hS (fun q _ h9 => (by obtain ⟨i9, h8, rfl⟩ := h9; exact hA _ (by have := hw.1 i9 h8; omega))) (fun q h9 => (by obtain ⟨i9, h8, rfl⟩ := h9; exact hA _ (by have := hw.1 i9 h8; omega))) (fun r u t H1 locs1 ht hvm hw9 hB hz1 hk1 hS => ?_)
      try dsimp only at hB
      rw [ht] at hB
      rw [hw9]
      replace nb1 := nb1.kept (hk1 _ nb1.lt (fun ⟨i9, h8, h7⟩ => by have := hw.1 i9 h8; omega))
      replace hw := hw.setP hB (fun q h1 h2 => hk1 q h1 h2)
      refine lv_aload hx hb dX4_mix_180 (lv_at hl 1 rfl) ?_
      refine vp_callSi (va_runS (As := [.ref b1]) (rest := [.int (stepsV (mxV V k1 k2 k3 k4 201) 200)]) ⟨hx, hb, hml, hown, hts⟩ (conX4_steps l D T b1 (rowP (fun g => kepS (mixV (U k2 g) (U k3 g) k4)) 201)) (va_cwS 1 hts gX4_mix_X4_steps rfl rfl rfl (by decide +kernel) ⟨Nat.le_of_ble_eq_true rfl, Nat.le_of_ble_eq_true rfl⟩) (preS hK nb1) rfl rfl hl.1 rfl (lv_room (Nat.le_of_ble_eq_true rfl)) dX4_mix_182 ⟨by show _ ≤ 1; omega, by show _ ≤ 201; omega⟩).run (fun r16 hr16 => ?_)
      rw [hr16]
      have hfn := mix_fn (U := U) (V := V) (to := k1) (one := k2) (other := k3) (k := k4) (by omega) (by omega) hinv.2.2
      have hans := steps_eq fun j hj => (hfn j hj).1.symm
      refine lv_icmp_ne (tgt := 192) hx hb dX4_mix_185 (by decide) (fun c185 => ?_) (fun c185 => ?_)
      · skip
        exact absurd hans c185
      · skip
        refine lv_iconst (v := nI 1) hx hb dX4_mix_188 (by decide) ?_
        refine lv_goto (tgt := 193) hx hb dX4_mix_189 (by decide) ?_
        exact W.zret (v := nI 1) hx hb hr (rfl) (fun t ht _ => ⟨⟨nI 1, (), rfl, by rfl, by dsimp only; rw [ht]; exact ⟨_, _, _, _, _, _, _, _, _, by omega, (by have h8 := hS.1; omega), hw, hinv.fun (k := k1) up_nf (by rw [va_up_s]; exact hfn)⟩⟩, hS.F ht⟩) hS.2.2 dX4_mix_193
    · skip
      have c40 : ¬ (200 < 201) := fun q9 => c40 ((nc_lt (a := 200) (b := 201) (by omega) (by omega)).mpr q9)
      omega
