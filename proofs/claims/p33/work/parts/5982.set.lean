/-! STONES: SET -/
theorem rn_lo {k : Nat} {m : Int32} (hk : k < 2 ^ 30) (h : m.toInt ≤ 0) : ¬ nI k < m := by
  rw [Int32.lt_iff_toInt_lt, nI_toInt (by omega)]
  omega
theorem rn_hi {k c : Nat} (hc : c < 2 ^ 30) (h : k ≤ c) : nI k ≤ nI c := by
  rw [Int32.le_iff_toInt_le, nI_toInt (by omega), nI_toInt (by omega)]
  omega
/-- a function set to a number where p holds -/
def stS (u : Nat → Int32) (p : Nat → Bool) (x : Int32) (n : Nat) : Nat → Int32 := fun g => if g < n ∧ p g = true then x else u g
theorem stS_0 (u : Nat → Int32) (p : Nat → Bool) (x : Int32) : stS u p x 0 = u := by
  funext g
  unfold stS
  rw [if_neg (by omega)]
theorem stS_y {u : Nat → Int32} {p : Nat → Bool} {x : Int32} {n : Nat} (h : p n = true) : upd (stS u p x n) n x = stS u p x (n + 1) := by
  funext g
  rw [upd_at]
  unfold stS
  by_cases e : g = n
  · rw [if_pos e, e, if_pos ⟨by omega, h⟩]
  · rw [if_neg e]
    by_cases c : g < n ∧ p g = true
    · rw [if_pos c, if_pos ⟨by omega, c.2⟩]
    · rw [if_neg c, if_neg fun q => c ⟨by omega, q.2⟩]
theorem stS_n {u : Nat → Int32} {p : Nat → Bool} {x : Int32} {n : Nat} (h : p n = false) : stS u p x n = stS u p x (n + 1) := by
  funext g
  unfold stS
  by_cases e : g = n
  · rw [e, if_neg (by omega), if_neg fun q => by rw [h] at q; cases q.2]
  · by_cases c : g < n ∧ p g = true
    · rw [if_pos c, if_pos ⟨by omega, c.2⟩]
    · rw [if_neg c, if_neg fun q => c ⟨by omega, q.2⟩]
theorem set_fn {u v p : Nat → Int32} {x : Int32} (h1 : ¬ x < -10000) (h2 : x ≤ nI 10000) (h : ∀ g : Nat, g < 201 → u g = v g ∧ inL (v g)) : ∀ g : Nat, g < 201 → stS u (pB p) x 201 g = setV v p x 201 g ∧ inL (setV v p x 201 g) := by
  have hx : inL x := by
    rw [Int32.lt_iff_toInt_lt] at h1
    rw [Int32.le_iff_toInt_le] at h2
    have e1 : (nI 10000).toInt = 10000 := rfl
    have e2 : (-10000 : Int32).toInt = -10000 := rfl
    unfold inL
    omega
  intro g hg
  obtain ⟨a1, a2⟩ := h g hg
  rw [setV_h v p x g hg]
  unfold stS
  by_cases c : pB p g = true
  · rw [if_pos c, if_pos ⟨hg, c⟩, kepS_id hx]
    exact ⟨rfl, hx⟩
  · rw [if_neg c, if_neg fun q => c q.2]
    exact ⟨a1, a2⟩
set_option maxHeartbeats 4000000 in
set_option maxRecDepth 100000 in
theorem conX4_set (l : Launch) (D : va_G) (T : Nat → ClassId) (ad : Nat → Nat) (o sc N : Nat) (sf : Nat → Int32) (d : Nat) (hN : N < 2 ^ 30) (hd : d + 20 < 2 ^ 30) : Met l yX4_set wsX4_set ({ frames := 3, cells := 0, slots := 0, locals := 69 }) (cP D T [.ref o] (fun H => ST D T ad o sc N sf d H)) (va_Qi (fun (r : Int32) (_ : Unit) => r = nI 1) (fun _ t => ST D T ad o sc N sf (d + 10) t.heap) (fun z : Nat => o ≤ z)) 0 0 (fun z : Nat => o ≤ z) := by
  refine Met.ofW (cc := cX4_set) (maxL := 5) (ret := (some .boolean)) (by decide) rfl ?_
  intro p e s m args below meth c s₁ B hml hv9
  obtain ⟨rfl, hK, ⟨dr, F, V, sr, C, L, U, la, vv, hdr, ho9, hw, hinv⟩⟩ := hv9
  have hx := B.exec
  have hb := B.bytes
  have hr := B.returns
  have hts := atoms_spec (ws := wsX4_set) B.pre
  have hown : s.vm.findClass RX4 = some m.cls := findClass_of_methodNamed B.named
  have hlocks := B.notSynchronized
  have hin4 : ∀ w ∈ wsX40, w ∈ wsX4_set := by decide +kernel
  generalize hAe : (fun z : Nat => o ≤ z) = A
  have hA : ∀ z : Nat, o ≤ z → A z := fun z h9 => by subst hAe; exact h9
  have hS : va_S A s.heap s.heap [] := va_S.rf
  have hl := lv_entry ([.ref o]) (n := 5) (Nat.le_of_ble_eq_true rfl)
  rw [lg_entry_eq]
  generalize (lg_sl ([.ref o]) ++ List.replicate (5 - (lg_sl ([.ref o])).length) Slot.unset).toArray = ls at hl ⊢
  have hl : lv_has ls 5 [(0, .ref o)] := hl
  have hA_o : A o := hA o (Nat.le_refl _)
  have hlt9 := hw.lt
  refine lv_aload_n hx hb dX4_set_0 rfl (lv_at hl 0 rfl) ?_
  refine lv_iconst (v := nI 5) hx hb dX4_set_1 (by decide) ?_
  refine va_calli (va_runV (As := [.int (nI 5)]) (rest := []) ⟨hx, hb, hml, hown, hts⟩ (conX4_draw l D T ad o sc N sf dr F V sr C L U la vv (by omega) (by omega) 5 (by omega) (by omega)) (cwV 1 hts gX4_set_X4_draw rfl rfl rfl (by decide +kernel) ⟨Nat.le_of_ble_eq_true rfl, Nat.le_of_ble_eq_true rfl⟩) (preV hK hw.ob rfl hw) rfl rfl hl.1 rfl (lv_room (Nat.le_of_ble_eq_true rfl)) dX4_set_2 ⟨Nat.le_of_ble_eq_true rfl, Nat.le_of_ble_eq_true rfl⟩) hS (fun q _ h9 => (by have h8 : q = o := h9; rw [h8]; exact hA_o)) (fun q h9 => (by have h8 : q = o := h9; rw [h8]; exact hA_o)) (fun r u t H1 locs1 ht hvm hw9 hB hz1 hk1 hS => ?_)
  try dsimp only at hB
  rw [ht] at hB
  obtain ⟨k1, hk1, rfl⟩ := hw9
  replace hw := hB
  refine lv_istore_n (lv' := [(1, .int (nI k1)), (0, .ref o)]) hx hb dX4_set_5 rfl hl (by decide) rfl (fun ls hl => ?_)
  refine lv_aload_n hx hb dX4_set_6 rfl (lv_at hl 1 rfl) ?_
  refine lv_bipush (v := nI 8) hx hb dX4_set_7 (by decide) ?_
  refine va_calli (va_runV (As := [.int (nI 8)]) (rest := []) ⟨hx, hb, hml, hown, hts⟩ (conX4_draw l D T ad o sc N sf (dr + 1) F V sr C L U la vv (by omega) (by omega) 8 (by omega) (by omega)) (cwV 1 hts gX4_set_X4_draw rfl rfl rfl (by decide +kernel) ⟨Nat.le_of_ble_eq_true rfl, Nat.le_of_ble_eq_true rfl⟩) (preV hK hw.ob rfl hw) rfl rfl hl.1 rfl (lv_room (Nat.le_of_ble_eq_true rfl)) dX4_set_9 ⟨Nat.le_of_ble_eq_true rfl, Nat.le_of_ble_eq_true rfl⟩) hS (fun q _ h9 => (by have h8 : q = o := h9; rw [h8]; exact hA_o)) (fun q h9 => (by have h8 : q = o := h9; rw [h8]; exact hA_o)) (fun r u t H1 locs1 ht hvm hw9 hB hz1 hk1 hS => ?_)
  try dsimp only at hB
  rw [ht] at hB
  obtain ⟨k2, hk2, rfl⟩ := hw9
  replace hw := hB
  refine lv_istore_n (lv' := [(2, .int (nI k2)), (1, .int (nI k1)), (0, .ref o)]) hx hb dX4_set_12 rfl hl (by decide) rfl (fun ls hl => ?_)
  refine lv_aload_n hx hb dX4_set_13 rfl (lv_at hl 2 rfl) ?_
  refine lv_iconst (v := nI 5) hx hb dX4_set_14 (by decide) ?_
  refine va_calli (va_runV (As := [.int (nI 5)]) (rest := []) ⟨hx, hb, hml, hown, hts⟩ (conX4_draw l D T ad o sc N sf (dr + 1 + 1) F V sr C L U la vv (by omega) (by omega) 5 (by omega) (by omega)) (cwV 1 hts gX4_set_X4_draw rfl rfl rfl (by decide +kernel) ⟨Nat.le_of_ble_eq_true rfl, Nat.le_of_ble_eq_true rfl⟩) (preV hK hw.ob rfl hw) rfl rfl hl.1 rfl (lv_room (Nat.le_of_ble_eq_true rfl)) dX4_set_15 ⟨Nat.le_of_ble_eq_true rfl, Nat.le_of_ble_eq_true rfl⟩) hS (fun q _ h9 => (by have h8 : q = o := h9; rw [h8]; exact hA_o)) (fun q h9 => (by have h8 : q = o := h9; rw [h8]; exact hA_o)) (fun r u t H1 locs1 ht hvm hw9 hB hz1 hk1 hS => ?_)
  try dsimp only at hB
  rw [ht] at hB
  obtain ⟨k3, hk3, rfl⟩ := hw9
  replace hw := hB
  refine lv_if_ne (tgt := 35) hx hb dX4_set_18 (by decide) (fun c18 => ?_) (fun c18 => ?_)
  · skip
    have c18 : ¬ (k3 = 0) := fun q9 => c18 ((nc_eq (a := k3) (b := 0) (by omega) (by omega)).mpr q9)
    refine lv_aload_n hx hb dX4_set_35 rfl (lv_at hl 2 rfl) ?_
    refine lv_bipush (v := nI 30) hx hb dX4_set_36 (by decide) ?_
    refine va_calli (va_runV (As := [.int (nI 30)]) (rest := []) ⟨hx, hb, hml, hown, hts⟩ (conX4_draw l D T ad o sc N sf (dr + 1 + 1 + 1) F V sr C L U la vv (by omega) (by omega) 30 (by omega) (by omega)) (cwV 1 hts gX4_set_X4_draw rfl rfl rfl (by decide +kernel) ⟨Nat.le_of_ble_eq_true rfl, Nat.le_of_ble_eq_true rfl⟩) (preV hK hw.ob rfl hw) rfl rfl hl.1 rfl (lv_room (Nat.le_of_ble_eq_true rfl)) dX4_set_38 ⟨Nat.le_of_ble_eq_true rfl, Nat.le_of_ble_eq_true rfl⟩) hS (fun q _ h9 => (by have h8 : q = o := h9; rw [h8]; exact hA_o)) (fun q h9 => (by have h8 : q = o := h9; rw [h8]; exact hA_o)) (fun r u t H1 locs1 ht hvm hw9 hB hz1 hk1 hS => ?_)
    try dsimp only at hB
    rw [ht] at hB
    obtain ⟨k4, hk4, rfl⟩ := hw9
    replace hw := hB
    refine lv_istore_n (lv' := [(3, .int (nI k4)), (2, .int (nI k2)), (1, .int (nI k1)), (0, .ref o)]) hx hb dX4_set_41 rfl hl (by decide) rfl (fun ls hl => ?_)
    refine lv_iconst (v := nI 0) hx hb dX4_set_42 (by decide) ?_
    refine lv_istore (lv' := [(4, .int (nI 0)), (3, .int (nI k4)), (2, .int (nI k2)), (1, .int (nI k1)), (0, .ref o)]) hx hb dX4_set_43 hl (by decide) rfl (fun ls hl => ?_)
    refine q_for (fun (i : Nat) (H : Heap) (locs : List Loc) (ls : Array Slot) => va_S A s.heap H locs ∧ lv_has ls 5 [(4, .int (nI i)), (3, .int (nI k4)), (2, .int (nI k2)), (1, .int (nI k1)), (0, .ref o)] ∧ SW D T ad o sc N sf (dr + 1 + 1 + 1 + 1) F V sr C L (va_up U k1 (stS (U k1) (pB (F k2)) (nI k4) i)) la vv H) (N := 201) 0 (by omega) ?_ ?_ ?_
    · skip
      exact ⟨hS, lv_sub hl [0, 1, 2, 3, 4] rfl, (by rw [stS_0, va_up_id]; exact hw)⟩
    · skip
      intro i H locs ls hi9 hin9 hnext
      obtain ⟨hS, hl, hw⟩ := hin9
      refine lv_iload hx hb dX4_set_45 (lv_at hl 0 rfl) ?_
      refine lv_sipush (v := nI 200) hx hb dX4_set_47 (by decide) ?_
      refine lv_icmp_gt (tgt := 83) hx hb dX4_set_50 (by decide) (fun c50 => ?_) (fun c50 => ?_)
      · skip
        have c50 : 200 < i := (nc_lt (a := 200) (b := i) (by omega) (by omega)).mp c50
        omega
      · skip
        have c50 : ¬ (200 < i) := fun q9 => c50 ((nc_lt (a := 200) (b := i) (by omega) (by omega)).mpr q9)
        refine lv_aload_n hx hb dX4_set_53 rfl (lv_at hl 4 rfl) ?_
        refine q_get (v := .ref (o + 38)) hx hb hts hin4 hown hK hw.ob rfl 3 (by decide) (hts (.fieldLink RX4 18 "PuddingstoneLineLaw$Stones" "sets" "[[[I") (by decide +kernel)) (fun _ h9 => h9) rfl dX4_set_54 ?_
        refine lv_iload_n hx hb dX4_set_57 rfl (lv_at hl 2 rfl) ?_
        refine q_aald hx hb hK 8 rfl rfl hw.ss k2 rfl (by omega) (by decide) (b := la k2) rfl dX4_set_58 ?_
        obtain ⟨hla1, hln1, ads1, hi1⟩ := hw.il k2 (by omega)
        have hR1 := hinv.2.1 k2 (by omega)
        refine lv_iload hx hb dX4_set_59 (lv_at hl 0 rfl) ?_
        refine vp_callSi (va_runS (As := [.ref (la k2), .int (nI i)]) (rest := []) ⟨hx, hb, hml, hown, hts⟩ (conX4_isIn l D T (o + 53) (la k2) (fun k => ads1 k) ((L k2).1) ((L k2).2.1) ((L k2).2.2) (fun k hk => hR1.sp hk) hR1.1.le i (by omega)) (va_cwS 2 hts gX4_set_X4_isIn rfl rfl rfl (by decide +kernel) ⟨Nat.le_of_ble_eq_true rfl, Nat.le_of_ble_eq_true rfl⟩) (preS hK hi1) rfl rfl hl.1 rfl (lv_room (Nat.le_of_ble_eq_true rfl)) dX4_set_61 ⟨Nat.le_of_ble_eq_true rfl, Nat.le_of_ble_eq_true rfl⟩).run (fun r1 hr1 => ?_)
        rcases hr1 with ⟨rfl, hj1⟩ | ⟨rfl, hj1⟩
        · skip
          replace hj1 := in_pB hR1 (by omega) hj1
          refine W.eq (g2 := F0 m 64 ls [.int (nI 1)]) rfl ?_
          refine lv_if_eq (tgt := 77) hx hb dX4_set_64 (by decide) (fun c64 => ?_) (fun c64 => ?_)
          · skip
            have c64 : 1 = 0 := (nc_eq (a := 1) (b := 0) (by omega) (by omega)).mp c64
            omega
          · skip
            have c64 : ¬ (1 = 0) := fun q9 => c64 ((nc_eq (a := 1) (b := 0) (by omega) (by omega)).mpr q9)
            refine lv_aload_n hx hb dX4_set_67 rfl (lv_at hl 4 rfl) ?_
            refine q_get (v := .ref (o + 47)) hx hb hts hin4 hown hK hw.ob rfl 4 (by decide) (hts (.fieldLink RX4 23 "PuddingstoneLineLaw$Stones" "values" "[[I") (by decide +kernel)) (fun _ h9 => h9) rfl dX4_set_68 ?_
            refine lv_iload_n hx hb dX4_set_71 rfl (lv_at hl 3 rfl) ?_
            refine q_aald hx hb hK 5 rfl rfl hw.vs k1 (rfl) (by omega) (by decide) (b := vv k1) rfl dX4_set_72 ?_
            refine lv_iload hx hb dX4_set_73 (lv_at hl 0 rfl) ?_
            refine lv_iload_n hx hb dX4_set_75 rfl (lv_at hl 1 rfl) ?_
            refine q_iast hx hb hK (hw.uU (by omega)) i (rfl) (by omega) (by decide) hS (hA _ (by have h8 := (hw.u k1 (by omega)).1; omega)) dX4_set_76 (fun H1 locs1 hw9 hz oq hS => ?_)
            replace hw := hw.setUU (by omega) hw9 oq
            refine lv_iinc (v := nI (i + 1)) (lv' := [(4, .int (nI (i + 1))), (3, .int (nI k4)), (2, .int (nI k2)), (1, .int (nI k1)), (0, .ref o)]) hx hb dX4_set_77 hl (k := 0) rfl (inc_1 _) (by decide) rfl (fun ls hl => ?_)
            refine lv_goto (tgt := 45) hx hb dX4_set_80 (by decide) ?_
            exact hnext _ _ _ ⟨hS, lv_sub hl [0, 1, 2, 3, 4] rfl, (by first | (rw [stS_y hj1] at hw; exact hw) | (rw [stS_n hj1] at hw; exact hw))⟩
        · skip
          replace hj1 := nin_pB hR1 (by omega) hj1
          refine W.eq (g2 := F0 m 64 ls [.int (nI 0)]) rfl ?_
          refine lv_if_eq (tgt := 77) hx hb dX4_set_64 (by decide) (fun c64 => ?_) (fun c64 => ?_)
          · skip
            have c64 : 0 = 0 := (nc_eq (a := 0) (b := 0) (by omega) (by omega)).mp c64
            refine lv_iinc (v := nI (i + 1)) (lv' := [(4, .int (nI (i + 1))), (3, .int (nI k4)), (2, .int (nI k2)), (1, .int (nI k1)), (0, .ref o)]) hx hb dX4_set_77 hl (k := 0) rfl (inc_1 _) (by decide) rfl (fun ls hl => ?_)
            refine lv_goto (tgt := 45) hx hb dX4_set_80 (by decide) ?_
            exact hnext _ _ _ ⟨hS, lv_sub hl [0, 1, 2, 3, 4] rfl, (by first | (rw [stS_y hj1] at hw; exact hw) | (rw [stS_n hj1] at hw; exact hw))⟩
          · skip
            have c64 : ¬ (0 = 0) := fun q9 => c64 ((nc_eq (a := 0) (b := 0) (by omega) (by omega)).mpr q9)
            omega
    · skip
      intro H locs ls hin9
      obtain ⟨hS, hl, hw⟩ := hin9
      refine lv_iload hx hb dX4_set_45 (lv_at hl 0 rfl) ?_
      refine lv_sipush (v := nI 200) hx hb dX4_set_47 (by decide) ?_
      refine lv_icmp_gt (tgt := 83) hx hb dX4_set_50 (by decide) (fun c50 => ?_) (fun c50 => ?_)
      · skip
        have c50 : 200 < 201 := (nc_lt (a := 200) (b := 201) (by omega) (by omega)).mp c50
        refine lv_aload_n hx hb dX4_set_83 rfl (lv_at hl 4 rfl) ?_
        refine q_get (v := .ref (ad 0)) hx hb hts hin4 hown hK hw.ob rfl 0 (by decide) (hts (.fieldLink RX4 10 "PuddingstoneLineLaw$Stones" "m" "LPuddingstoneLine;") (by decide +kernel)) (fun _ h9 => h9) rfl dX4_set_84 ?_
        refine lv_iload_n hx hb dX4_set_87 rfl (lv_at hl 3 rfl) ?_
        refine lv_iload_n hx hb dX4_set_88 rfl (lv_at hl 2 rfl) ?_
        refine lv_iload_n hx hb dX4_set_89 rfl (lv_at hl 1 rfl) ?_
        refine va_calli (va_runV (As := [.int (nI k1), .int (nI k2), .int (nI k4)]) (rest := []) ⟨hx, hb, hml, hown, hts⟩ (conX3_set l D T ad F V sr C k1 (by omega) k2 (nI k4) (by omega) (rn_lo (by omega) (by show (-10000 : Int) ≤ 0; omega)) (rn_hi (by omega) (by omega))) (cwV 3 hts gX4_set_X3_set rfl rfl rfl (by decide +kernel) ⟨Nat.le_of_ble_eq_true rfl, Nat.le_of_ble_eq_true rfl⟩) (preV hK hw.pl.o rfl hw.pl) rfl rfl hl.1 rfl (lv_room (Nat.le_of_ble_eq_true rfl)) dX4_set_90 ⟨Nat.le_of_ble_eq_true rfl, Nat.le_of_ble_eq_true rfl⟩) hS (fun q _ h9 => (by obtain ⟨i9, h8, rfl⟩ := h9; exact hA _ (by have := hw.1 i9 h8; omega))) (fun q h9 => (by obtain ⟨i9, h8, rfl⟩ := h9; exact hA _ (by have := hw.1 i9 h8; omega))) (fun r u t H1 locs1 ht hvm hw9 hB hz1 hk1 hS => ?_)
        try dsimp only at hB
        rw [ht] at hB
        rw [hw9]
        replace hw := hw.setP hB (fun q h1 h2 => hk1 q h1 h2)
        refine lv_aload_n hx hb dX4_set_93 rfl (lv_at hl 4 rfl) ?_
        refine q_get (v := .ref (o + 47)) hx hb hts hin4 hown hK hw.ob rfl 4 (by decide) (hts (.fieldLink RX4 23 "PuddingstoneLineLaw$Stones" "values" "[[I") (by decide +kernel)) (fun _ h9 => h9) rfl dX4_set_94 ?_
        refine lv_iload_n hx hb dX4_set_97 rfl (lv_at hl 3 rfl) ?_
        refine q_aald hx hb hK 5 rfl rfl hw.vs k1 (rfl) (by omega) (by decide) (b := vv k1) rfl dX4_set_98 ?_
        refine vp_callSi (va_runS (As := [.ref (vv k1)]) (rest := [.int (stepsV (setV (V k1) (F k2) (nI k4) 201) 200)]) ⟨hx, hb, hml, hown, hts⟩ (conX4_steps l D T (vv k1) (stS (U k1) (pB (F k2)) (nI k4) 201)) (va_cwS 1 hts gX4_set_X4_steps rfl rfl rfl (by decide +kernel) ⟨Nat.le_of_ble_eq_true rfl, Nat.le_of_ble_eq_true rfl⟩) (preS hK ((hw.uU (by omega)))) rfl rfl hl.1 rfl (lv_room (Nat.le_of_ble_eq_true rfl)) dX4_set_99 ⟨Nat.le_of_ble_eq_true rfl, Nat.le_of_ble_eq_true rfl⟩).run (fun r2 hr2 => ?_)
        rw [hr2]
        have hfn := set_fn (x := nI k4) (p := F k2) (u := U k1) (v := V k1) (rn_lo (by omega) (by show (-10000 : Int) ≤ 0; omega)) (rn_hi (by omega) (by omega)) (hinv.2.2 k1 · (by omega))
        have hans := steps_eq fun j hj => (hfn j hj).1.symm
        refine lv_icmp_ne (tgt := 109) hx hb dX4_set_102 (by decide) (fun c102 => ?_) (fun c102 => ?_)
        · skip
          exact absurd hans c102
        · skip
          refine lv_iconst (v := nI 1) hx hb dX4_set_105 (by decide) ?_
          refine lv_goto (tgt := 110) hx hb dX4_set_106 (by decide) ?_
          exact W.zret (v := nI 1) hx hb hr (rfl) (fun t ht _ => ⟨⟨nI 1, (), rfl, by rfl, by dsimp only; rw [ht]; exact ⟨_, _, _, _, _, _, _, _, _, by omega, (by have h8 := hS.1; omega), hw, hinv.fun (k := k1) up_nf (by rw [va_up_s]; exact hfn)⟩⟩, hS.F ht⟩) hS.2.2 dX4_set_110
      · skip
        have c50 : ¬ (200 < 201) := fun q9 => c50 ((nc_lt (a := 200) (b := 201) (by omega) (by omega)).mpr q9)
        omega
  · skip
    have c18 : k3 = 0 := (nc_eq (a := k3) (b := 0) (by omega) (by omega)).mp c18
    refine lv_aload_n hx hb dX4_set_21 rfl (lv_at hl 2 rfl) ?_
    refine lv_sipush (v := nI 20001) hx hb dX4_set_22 (by decide) ?_
    refine va_calli (va_runV (As := [.int (nI 20001)]) (rest := []) ⟨hx, hb, hml, hown, hts⟩ (conX4_draw l D T ad o sc N sf (dr + 1 + 1 + 1) F V sr C L U la vv (by omega) (by omega) 20001 (by omega) (by omega)) (cwV 1 hts gX4_set_X4_draw rfl rfl rfl (by decide +kernel) ⟨Nat.le_of_ble_eq_true rfl, Nat.le_of_ble_eq_true rfl⟩) (preV hK hw.ob rfl hw) rfl rfl hl.1 rfl (lv_room (Nat.le_of_ble_eq_true rfl)) dX4_set_25 ⟨Nat.le_of_ble_eq_true rfl, Nat.le_of_ble_eq_true rfl⟩) hS (fun q _ h9 => (by have h8 : q = o := h9; rw [h8]; exact hA_o)) (fun q h9 => (by have h8 : q = o := h9; rw [h8]; exact hA_o)) (fun r u t H1 locs1 ht hvm hw9 hB hz1 hk1 hS => ?_)
    try dsimp only at hB
    rw [ht] at hB
    obtain ⟨k4, hk4, rfl⟩ := hw9
    replace hw := hB
    refine lv_sipush (v := nI 10000) hx hb dX4_set_28 (by decide) ?_
    refine lv_isub hx hb dX4_set_31 ?_
    refine lv_goto (tgt := 41) hx hb dX4_set_32 (by decide) ?_
    refine lv_istore_n (lv' := [(3, .int ((nI k4) - (nI 10000))), (2, .int (nI k2)), (1, .int (nI k1)), (0, .ref o)]) hx hb dX4_set_41 rfl hl (by decide) rfl (fun ls hl => ?_)
    refine lv_iconst (v := nI 0) hx hb dX4_set_42 (by decide) ?_
    refine lv_istore (lv' := [(4, .int (nI 0)), (3, .int ((nI k4) - (nI 10000))), (2, .int (nI k2)), (1, .int (nI k1)), (0, .ref o)]) hx hb dX4_set_43 hl (by decide) rfl (fun ls hl => ?_)
    refine q_for (fun (i : Nat) (H : Heap) (locs : List Loc) (ls : Array Slot) => va_S A s.heap H locs ∧ lv_has ls 5 [(4, .int (nI i)), (3, .int ((nI k4) - (nI 10000))), (2, .int (nI k2)), (1, .int (nI k1)), (0, .ref o)] ∧ SW D T ad o sc N sf (dr + 1 + 1 + 1 + 1) F V sr C L (va_up U k1 (stS (U k1) (pB (F k2)) ((nI k4) - (nI 10000)) i)) la vv H) (N := 201) 0 (by omega) ?_ ?_ ?_
    · skip
      exact ⟨hS, lv_sub hl [0, 1, 2, 3, 4] rfl, (by rw [stS_0, va_up_id]; exact hw)⟩
    · skip
      intro i H locs ls hi9 hin9 hnext
      obtain ⟨hS, hl, hw⟩ := hin9
      refine lv_iload hx hb dX4_set_45 (lv_at hl 0 rfl) ?_
      refine lv_sipush (v := nI 200) hx hb dX4_set_47 (by decide) ?_
      refine lv_icmp_gt (tgt := 83) hx hb dX4_set_50 (by decide) (fun c50 => ?_) (fun c50 => ?_)
      · skip
        have c50 : 200 < i := (nc_lt (a := 200) (b := i) (by omega) (by omega)).mp c50
        omega
      · skip
        have c50 : ¬ (200 < i) := fun q9 => c50 ((nc_lt (a := 200) (b := i) (by omega) (by omega)).mpr q9)
        refine lv_aload_n hx hb dX4_set_53 rfl (lv_at hl 4 rfl) ?_
        refine q_get (v := .ref (o + 38)) hx hb hts hin4 hown hK hw.ob rfl 3 (by decide) (hts (.fieldLink RX4 18 "PuddingstoneLineLaw$Stones" "sets" "[[[I") (by decide +kernel)) (fun _ h9 => h9) rfl dX4_set_54 ?_
        refine lv_iload_n hx hb dX4_set_57 rfl (lv_at hl 2 rfl) ?_
        refine q_aald hx hb hK 8 rfl rfl hw.ss k2 rfl (by omega) (by decide) (b := la k2) rfl dX4_set_58 ?_
        obtain ⟨hla1, hln1, ads1, hi1⟩ := hw.il k2 (by omega)
        have hR1 := hinv.2.1 k2 (by omega)
        refine lv_iload hx hb dX4_set_59 (lv_at hl 0 rfl) ?_
        refine vp_callSi (va_runS (As := [.ref (la k2), .int (nI i)]) (rest := []) ⟨hx, hb, hml, hown, hts⟩ (conX4_isIn l D T (o + 53) (la k2) (fun k => ads1 k) ((L k2).1) ((L k2).2.1) ((L k2).2.2) (fun k hk => hR1.sp hk) hR1.1.le i (by omega)) (va_cwS 2 hts gX4_set_X4_isIn rfl rfl rfl (by decide +kernel) ⟨Nat.le_of_ble_eq_true rfl, Nat.le_of_ble_eq_true rfl⟩) (preS hK hi1) rfl rfl hl.1 rfl (lv_room (Nat.le_of_ble_eq_true rfl)) dX4_set_61 ⟨Nat.le_of_ble_eq_true rfl, Nat.le_of_ble_eq_true rfl⟩).run (fun r3 hr3 => ?_)
        rcases hr3 with ⟨rfl, hj1⟩ | ⟨rfl, hj1⟩
        · skip
          replace hj1 := in_pB hR1 (by omega) hj1
          refine W.eq (g2 := F0 m 64 ls [.int (nI 1)]) rfl ?_
          refine lv_if_eq (tgt := 77) hx hb dX4_set_64 (by decide) (fun c64 => ?_) (fun c64 => ?_)
          · skip
            have c64 : 1 = 0 := (nc_eq (a := 1) (b := 0) (by omega) (by omega)).mp c64
            omega
          · skip
            have c64 : ¬ (1 = 0) := fun q9 => c64 ((nc_eq (a := 1) (b := 0) (by omega) (by omega)).mpr q9)
            refine lv_aload_n hx hb dX4_set_67 rfl (lv_at hl 4 rfl) ?_
            refine q_get (v := .ref (o + 47)) hx hb hts hin4 hown hK hw.ob rfl 4 (by decide) (hts (.fieldLink RX4 23 "PuddingstoneLineLaw$Stones" "values" "[[I") (by decide +kernel)) (fun _ h9 => h9) rfl dX4_set_68 ?_
            refine lv_iload_n hx hb dX4_set_71 rfl (lv_at hl 3 rfl) ?_
            refine q_aald hx hb hK 5 rfl rfl hw.vs k1 (rfl) (by omega) (by decide) (b := vv k1) rfl dX4_set_72 ?_
            refine lv_iload hx hb dX4_set_73 (lv_at hl 0 rfl) ?_
            refine lv_iload_n hx hb dX4_set_75 rfl (lv_at hl 1 rfl) ?_
            refine q_iast hx hb hK (hw.uU (by omega)) i (rfl) (by omega) (by decide) hS (hA _ (by have h8 := (hw.u k1 (by omega)).1; omega)) dX4_set_76 (fun H1 locs1 hw9 hz oq hS => ?_)
            replace hw := hw.setUU (by omega) hw9 oq
            refine lv_iinc (v := nI (i + 1)) (lv' := [(4, .int (nI (i + 1))), (3, .int ((nI k4) - (nI 10000))), (2, .int (nI k2)), (1, .int (nI k1)), (0, .ref o)]) hx hb dX4_set_77 hl (k := 0) rfl (inc_1 _) (by decide) rfl (fun ls hl => ?_)
            refine lv_goto (tgt := 45) hx hb dX4_set_80 (by decide) ?_
            exact hnext _ _ _ ⟨hS, lv_sub hl [0, 1, 2, 3, 4] rfl, (by first | (rw [stS_y hj1] at hw; exact hw) | (rw [stS_n hj1] at hw; exact hw))⟩
        · skip
          replace hj1 := nin_pB hR1 (by omega) hj1
          refine W.eq (g2 := F0 m 64 ls [.int (nI 0)]) rfl ?_
          refine lv_if_eq (tgt := 77) hx hb dX4_set_64 (by decide) (fun c64 => ?_) (fun c64 => ?_)
          · skip
            have c64 : 0 = 0 := (nc_eq (a := 0) (b := 0) (by omega) (by omega)).mp c64
            refine lv_iinc (v := nI (i + 1)) (lv' := [(4, .int (nI (i + 1))), (3, .int ((nI k4) - (nI 10000))), (2, .int (nI k2)), (1, .int (nI k1)), (0, .ref o)]) hx hb dX4_set_77 hl (k := 0) rfl (inc_1 _) (by decide) rfl (fun ls hl => ?_)
            refine lv_goto (tgt := 45) hx hb dX4_set_80 (by decide) ?_
            exact hnext _ _ _ ⟨hS, lv_sub hl [0, 1, 2, 3, 4] rfl, (by first | (rw [stS_y hj1] at hw; exact hw) | (rw [stS_n hj1] at hw; exact hw))⟩
          · skip
            have c64 : ¬ (0 = 0) := fun q9 => c64 ((nc_eq (a := 0) (b := 0) (by omega) (by omega)).mpr q9)
            omega
    · skip
      intro H locs ls hin9
      obtain ⟨hS, hl, hw⟩ := hin9
      refine lv_iload hx hb dX4_set_45 (lv_at hl 0 rfl) ?_
      refine lv_sipush (v := nI 200) hx hb dX4_set_47 (by decide) ?_
      refine lv_icmp_gt (tgt := 83) hx hb dX4_set_50 (by decide) (fun c50 => ?_) (fun c50 => ?_)
      · skip
        have c50 : 200 < 201 := (nc_lt (a := 200) (b := 201) (by omega) (by omega)).mp c50
        refine lv_aload_n hx hb dX4_set_83 rfl (lv_at hl 4 rfl) ?_
        refine q_get (v := .ref (ad 0)) hx hb hts hin4 hown hK hw.ob rfl 0 (by decide) (hts (.fieldLink RX4 10 "PuddingstoneLineLaw$Stones" "m" "LPuddingstoneLine;") (by decide +kernel)) (fun _ h9 => h9) rfl dX4_set_84 ?_
        refine lv_iload_n hx hb dX4_set_87 rfl (lv_at hl 3 rfl) ?_
        refine lv_iload_n hx hb dX4_set_88 rfl (lv_at hl 2 rfl) ?_
        refine lv_iload_n hx hb dX4_set_89 rfl (lv_at hl 1 rfl) ?_
        refine va_calli (va_runV (As := [.int (nI k1), .int (nI k2), .int ((nI k4) - (nI 10000))]) (rest := []) ⟨hx, hb, hml, hown, hts⟩ (conX3_set l D T ad F V sr C k1 (by omega) k2 ((nI k4) - (nI 10000)) (by omega) (rg_lo (by omega) (by omega) (by show (-10000 : Int) ≤ _; omega)) (rg_hi (by omega) (by omega) (by omega) (by omega))) (cwV 3 hts gX4_set_X3_set rfl rfl rfl (by decide +kernel) ⟨Nat.le_of_ble_eq_true rfl, Nat.le_of_ble_eq_true rfl⟩) (preV hK hw.pl.o rfl hw.pl) rfl rfl hl.1 rfl (lv_room (Nat.le_of_ble_eq_true rfl)) dX4_set_90 ⟨Nat.le_of_ble_eq_true rfl, Nat.le_of_ble_eq_true rfl⟩) hS (fun q _ h9 => (by obtain ⟨i9, h8, rfl⟩ := h9; exact hA _ (by have := hw.1 i9 h8; omega))) (fun q h9 => (by obtain ⟨i9, h8, rfl⟩ := h9; exact hA _ (by have := hw.1 i9 h8; omega))) (fun r u t H1 locs1 ht hvm hw9 hB hz1 hk1 hS => ?_)
        try dsimp only at hB
        rw [ht] at hB
        rw [hw9]
        replace hw := hw.setP hB (fun q h1 h2 => hk1 q h1 h2)
        refine lv_aload_n hx hb dX4_set_93 rfl (lv_at hl 4 rfl) ?_
        refine q_get (v := .ref (o + 47)) hx hb hts hin4 hown hK hw.ob rfl 4 (by decide) (hts (.fieldLink RX4 23 "PuddingstoneLineLaw$Stones" "values" "[[I") (by decide +kernel)) (fun _ h9 => h9) rfl dX4_set_94 ?_
        refine lv_iload_n hx hb dX4_set_97 rfl (lv_at hl 3 rfl) ?_
        refine q_aald hx hb hK 5 rfl rfl hw.vs k1 (rfl) (by omega) (by decide) (b := vv k1) rfl dX4_set_98 ?_
        refine vp_callSi (va_runS (As := [.ref (vv k1)]) (rest := [.int (stepsV (setV (V k1) (F k2) ((nI k4) - (nI 10000)) 201) 200)]) ⟨hx, hb, hml, hown, hts⟩ (conX4_steps l D T (vv k1) (stS (U k1) (pB (F k2)) ((nI k4) - (nI 10000)) 201)) (va_cwS 1 hts gX4_set_X4_steps rfl rfl rfl (by decide +kernel) ⟨Nat.le_of_ble_eq_true rfl, Nat.le_of_ble_eq_true rfl⟩) (preS hK ((hw.uU (by omega)))) rfl rfl hl.1 rfl (lv_room (Nat.le_of_ble_eq_true rfl)) dX4_set_99 ⟨Nat.le_of_ble_eq_true rfl, Nat.le_of_ble_eq_true rfl⟩).run (fun r4 hr4 => ?_)
        rw [hr4]
        have hfn := set_fn (x := (nI k4) - (nI 10000)) (p := F k2) (u := U k1) (v := V k1) (rg_lo (by omega) (by omega) (by show (-10000 : Int) ≤ _; omega)) (rg_hi (by omega) (by omega) (by omega) (by omega)) (hinv.2.2 k1 · (by omega))
        have hans := steps_eq fun j hj => (hfn j hj).1.symm
        refine lv_icmp_ne (tgt := 109) hx hb dX4_set_102 (by decide) (fun c102 => ?_) (fun c102 => ?_)
        · skip
          exact absurd hans c102
        · skip
          refine lv_iconst (v := nI 1) hx hb dX4_set_105 (by decide) ?_
          refine lv_goto (tgt := 110) hx hb dX4_set_106 (by decide) ?_
          exact W.zret (v := nI 1) hx hb hr (rfl) (fun t ht _ => ⟨⟨nI 1, (), rfl, by rfl, by dsimp only; rw [ht]; exact ⟨_, _, _, _, _, _, _, _, _, by omega, (by have h8 := hS.1; omega), hw, hinv.fun (k := k1) up_nf (by rw [va_up_s]; exact hfn)⟩⟩, hS.F ht⟩) hS.2.2 dX4_set_110
      · skip
        have c50 : ¬ (200 < 201) := fun q9 => c50 ((nc_lt (a := 200) (b := 201) (by omega) (by omega)).mpr q9)
        omega
