/-! STONES: RAISE -/
theorem up_nf {α : Type} {F : Nat → α} {k : Nat} {f : α} : ∀ j : Nat, j < 5 → j ≠ k → va_up F k f j = F j := fun j _ h => va_up_n _ _ h
/-- a part of a function raised -/
def raS (u : Nat → Int32) (x : Int32) (lo n : Nat) : Nat → Int32 := fun g => if lo ≤ g ∧ g < lo + n then kepS (u g + x) else u g
theorem raS_0 (u : Nat → Int32) (x : Int32) (lo : Nat) : raS u x lo 0 = u := by
  funext g
  unfold raS
  rw [if_neg (by omega)]
theorem raS_at (u : Nat → Int32) (x : Int32) (lo n : Nat) : raS u x lo n (lo + n) = u (lo + n) := by
  unfold raS
  rw [if_neg (by omega)]
theorem raS_s (u : Nat → Int32) (x : Int32) (lo n : Nat) : upd (raS u x lo n) (lo + n) (kepS (u (lo + n) + x)) = raS u x lo (n + 1) := by
  funext g
  rw [upd_at]
  unfold raS
  by_cases e : g = lo + n
  · rw [if_pos e, if_pos (by omega), e]
  · rw [if_neg e]
    by_cases c : lo ≤ g ∧ g < lo + n
    · rw [if_pos c, if_pos (by omega)]
    · rw [if_neg c, if_neg (by omega)]
theorem rai_fn {u v : Nat → Int32} {x : Int32} {lo n : Nat} (hn : lo + n ≤ 201) (h : ∀ g : Nat, g < 201 → u g = v g ∧ inL (v g)) : ∀ g : Nat, g < 201 → raS u x lo n g = raiV v x lo n g ∧ inL (raiV v x lo n g) := by
  intro g hg
  obtain ⟨h1, h2⟩ := h g hg
  rw [raiV_h v x lo n hn g hg]
  unfold raS
  by_cases c : lo ≤ g ∧ g < lo + n
  · rw [if_pos c, if_pos c, h1]
    exact ⟨rfl, kepS_in _⟩
  · rw [if_neg c, if_neg c]
    exact ⟨h1, h2⟩
set_option maxHeartbeats 4000000 in
set_option maxRecDepth 100000 in
theorem conX4_raise (l : Launch) (D : va_G) (T : Nat → ClassId) (ad : Nat → Nat) (o sc N : Nat) (sf : Nat → Int32) (d : Nat) (hN : N < 2 ^ 30) (hd : d + 20 < 2 ^ 30) : Met l yX4_raise wsX4_raise ({ frames := 3, cells := 1, slots := 5, locals := 71 }) (cP D T [.ref o] (fun H => ST D T ad o sc N sf d H)) (va_Qi (fun (r : Int32) (_ : Unit) => r = nI 1) (fun _ t => ST D T ad o sc N sf (d + 10) t.heap) (fun z : Nat => o ≤ z)) 1 5 (fun z : Nat => o ≤ z) := by
  refine Met.ofW (cc := cX4_raise) (maxL := 5) (ret := (some .boolean)) (by decide) rfl ?_
  intro p e s m args below meth c s₁ B hml hv9
  obtain ⟨rfl, hK, ⟨dr, F, V, sr, C, L, U, la, vv, hdr, ho9, hw, hinv⟩⟩ := hv9
  have hx := B.exec
  have hb := B.bytes
  have hr := B.returns
  have hts := atoms_spec (ws := wsX4_raise) B.pre
  have hown : s.vm.findClass RX4 = some m.cls := findClass_of_methodNamed B.named
  have hlocks := B.notSynchronized
  have hin4 : ∀ w ∈ wsX40, w ∈ wsX4_raise := by decide +kernel
  generalize hAe : (fun z : Nat => o ≤ z) = A
  have hA : ∀ z : Nat, o ≤ z → A z := fun z h9 => by subst hAe; exact h9
  have hS : va_S A s.heap s.heap [] := va_S.rf
  have hl := lv_entry ([.ref o]) (n := 5) (Nat.le_of_ble_eq_true rfl)
  rw [lg_entry_eq]
  generalize (lg_sl ([.ref o]) ++ List.replicate (5 - (lg_sl ([.ref o])).length) Slot.unset).toArray = ls at hl ⊢
  have hl : lv_has ls 5 [(0, .ref o)] := hl
  have hA_o : A o := hA o (Nat.le_refl _)
  have hlt9 := hw.lt
  refine lv_aload_n hx hb dX4_raise_0 rfl (lv_at hl 0 rfl) ?_
  refine lv_iconst (v := nI 5) hx hb dX4_raise_1 (by decide) ?_
  refine va_calli (va_runV (As := [.int (nI 5)]) (rest := []) ⟨hx, hb, hml, hown, hts⟩ (conX4_draw l D T ad o sc N sf dr F V sr C L U la vv (by omega) (by omega) 5 (by omega) (by omega)) (cwV 1 hts gX4_raise_X4_draw rfl rfl rfl (by decide +kernel) ⟨Nat.le_of_ble_eq_true rfl, Nat.le_of_ble_eq_true rfl⟩) (preV hK hw.ob rfl hw) rfl rfl hl.1 rfl (lv_room (Nat.le_of_ble_eq_true rfl)) dX4_raise_2 ⟨Nat.le_of_ble_eq_true rfl, Nat.le_of_ble_eq_true rfl⟩) hS (fun q _ h9 => (by have h8 : q = o := h9; rw [h8]; exact hA_o)) (fun q h9 => (by have h8 : q = o := h9; rw [h8]; exact hA_o)) (fun r u t H1 locs1 ht hvm hw9 hB hz1 hk1 hS => ?_)
  try dsimp only at hB
  rw [ht] at hB
  obtain ⟨k1, hk1, rfl⟩ := hw9
  replace hw := hB
  refine lv_istore_n (lv' := [(1, .int (nI k1)), (0, .ref o)]) hx hb dX4_raise_5 rfl hl (by decide) rfl (fun ls hl => ?_)
  refine lv_aload_n hx hb dX4_raise_6 rfl (lv_at hl 1 rfl) ?_
  obtain ⟨Hw, hHw⟩ : ∃ z : Heap, z = H1 := ⟨_, rfl⟩
  obtain ⟨b1, hb1⟩ : ∃ z : Nat, z = H1.size := ⟨_, rfl⟩
  have ln_b1 : s.heap.size ≤ b1 := by have h8 := hS.1; omega
  have lw_b1 : Hw.size ≤ b1 := by rw [hHw]; omega
  refine va_callr (va_runV (As := []) (rest := []) ⟨hx, hb, hml, hown, hts⟩ (conX4_any l D T ad o sc N sf (dr + 1) F V sr C L U la vv (by omega) (by omega) b1 (by omega) (by omega)) (cwV 0 hts gX4_raise_X4_any rfl rfl rfl (by decide +kernel) ⟨Nat.le_of_ble_eq_true rfl, Nat.le_of_ble_eq_true rfl⟩) (preV hK hw.ob rfl ⟨hb1.symm, hw⟩) rfl rfl hl.1 rfl (lv_room (Nat.le_of_ble_eq_true rfl)) dX4_raise_7 ⟨Nat.le_of_ble_eq_true rfl, Nat.le_of_ble_eq_true rfl⟩) hS (fun q _ h9 => (by rcases (show q = o ∨ b1 ≤ q from h9) with h8 | h8 <;> first | (rw [h8]; exact hA_o) | exact hA q (by omega))) (fun q h9 => (by rcases (show q = o ∨ b1 ≤ q from h9) with h8 | h8 <;> first | (rw [h8]; exact hA_o) | exact hA q (by omega))) (fun u ra t H1 locs1 ht hvm hw9 hB hz1 hk1 hS => ?_)
  try dsimp only at hB
  rw [ht] at hB
  obtain ⟨a1, rfl⟩ : ∃ z, z = ra := ⟨_, rfl⟩
  obtain ⟨xa, ya, ea, hxy, hy9, he9, hra, hits, hw⟩ := hB
  have hfg9 := fg_lg hxy hy9 he9
  refine lv_astore_n (lv' := [(2, .ref a1), (1, .int (nI k1)), (0, .ref o)]) hx hb dX4_raise_10 rfl hl (by decide) rfl (fun ls hl => ?_)
  refine lv_aload_n hx hb dX4_raise_11 rfl (lv_at hl 2 rfl) ?_
  refine lv_iconst (v := nI 4) hx hb dX4_raise_12 (by decide) ?_
  refine va_calli (va_runV (As := [.int (nI 4)]) (rest := []) ⟨hx, hb, hml, hown, hts⟩ (conX4_draw l D T ad o sc N sf (dr + 1 + 4) F V sr C L U la vv (by omega) (by omega) 4 (by omega) (by omega)) (cwV 1 hts gX4_raise_X4_draw rfl rfl rfl (by decide +kernel) ⟨Nat.le_of_ble_eq_true rfl, Nat.le_of_ble_eq_true rfl⟩) (preV hK hw.ob rfl hw) rfl rfl hl.1 rfl (lv_room (Nat.le_of_ble_eq_true rfl)) dX4_raise_13 ⟨Nat.le_of_ble_eq_true rfl, Nat.le_of_ble_eq_true rfl⟩) hS (fun q _ h9 => (by have h8 : q = o := h9; rw [h8]; exact hA_o)) (fun q h9 => (by have h8 : q = o := h9; rw [h8]; exact hA_o)) (fun r u t H1 locs1 ht hvm hw9 hB hz1 hk1 hS => ?_)
  try dsimp only at hB
  rw [ht] at hB
  obtain ⟨k2, hk2, rfl⟩ := hw9
  replace hits := hits.kept (hk1 _ hits.lt (fun h9 => by have h8 : _ = o := h9; omega))
  replace hw := hB
  refine lv_if_ne (tgt := 33) hx hb dX4_raise_16 (by decide) (fun c16 => ?_) (fun c16 => ?_)
  · skip
    have c16 : ¬ (k2 = 0) := fun q9 => c16 ((nc_eq (a := k2) (b := 0) (by omega) (by omega)).mpr q9)
    refine lv_aload_n hx hb dX4_raise_33 rfl (lv_at hl 2 rfl) ?_
    refine lv_bipush (v := nI 21) hx hb dX4_raise_34 (by decide) ?_
    refine va_calli (va_runV (As := [.int (nI 21)]) (rest := []) ⟨hx, hb, hml, hown, hts⟩ (conX4_draw l D T ad o sc N sf (dr + 1 + 4 + 1) F V sr C L U la vv (by omega) (by omega) 21 (by omega) (by omega)) (cwV 1 hts gX4_raise_X4_draw rfl rfl rfl (by decide +kernel) ⟨Nat.le_of_ble_eq_true rfl, Nat.le_of_ble_eq_true rfl⟩) (preV hK hw.ob rfl hw) rfl rfl hl.1 rfl (lv_room (Nat.le_of_ble_eq_true rfl)) dX4_raise_36 ⟨Nat.le_of_ble_eq_true rfl, Nat.le_of_ble_eq_true rfl⟩) hS (fun q _ h9 => (by have h8 : q = o := h9; rw [h8]; exact hA_o)) (fun q h9 => (by have h8 : q = o := h9; rw [h8]; exact hA_o)) (fun r u t H1 locs1 ht hvm hw9 hB hz1 hk1 hS => ?_)
    try dsimp only at hB
    rw [ht] at hB
    obtain ⟨k3, hk3, rfl⟩ := hw9
    replace hits := hits.kept (hk1 _ hits.lt (fun h9 => by have h8 : _ = o := h9; omega))
    replace hw := hB
    refine lv_bipush (v := nI 10) hx hb dX4_raise_39 (by decide) ?_
    refine lv_isub hx hb dX4_raise_41 ?_
    refine lv_istore_n (lv' := [(3, .int ((nI k3) - (nI 10))), (2, .ref a1), (1, .int (nI k1)), (0, .ref o)]) hx hb dX4_raise_42 rfl hl (by decide) rfl (fun ls hl => ?_)
    refine lv_aload_n hx hb dX4_raise_43 rfl (lv_at hl 1 rfl) ?_
    refine lv_iconst (v := nI 0) hx hb dX4_raise_44 (by decide) ?_
    refine q_iald hx hb hK hits 0 (rfl) (by omega) (by decide) dX4_raise_45 ?_
    refine W.eq (g2 := F0 m 46 ls [.int (nI (fgN xa ya ea))]) rfl ?_
    refine lv_istore (lv' := [(4, .int (nI (fgN xa ya ea))), (3, .int ((nI k3) - (nI 10))), (2, .ref a1), (1, .int (nI k1)), (0, .ref o)]) hx hb dX4_raise_46 hl (by decide) rfl (fun ls hl => ?_)
    refine q_for (fun (i : Nat) (H : Heap) (locs : List Loc) (ls : Array Slot) => va_S A s.heap H locs ∧ lv_has ls 5 [(4, .int (nI (fgN xa ya ea + i))), (3, .int ((nI k3) - (nI 10))), (2, .ref a1), (1, .int (nI k1)), (0, .ref o)] ∧ pAt D H a1 (eN (T 1) 5 (an5 xa ya ea)) ∧ SW D T ad o sc N sf (dr + 1 + 4 + 1 + 1) F V sr C L (va_up U k1 (raS (U k1) ((nI k3) - (nI 10)) (fgN xa ya ea) i)) la vv H) (N := (lgN xa ya ea - fgN xa ya ea)) 0 (by omega) ?_ ?_ ?_
    · skip
      have e2 : nI (fgN xa ya ea) = nI (fgN xa ya ea + 0) := by rfl
      exact ⟨hS, lv_sub (lv_ex hl 0 rfl (congrArg Value.int e2)) [0, 1, 2, 3, 4] rfl, hits, (by rw [raS_0, va_up_id]; exact hw)⟩
    · skip
      intro i H locs ls hi9 hin9 hnext
      obtain ⟨hS, hl, hits, hw⟩ := hin9
      refine lv_iload hx hb dX4_raise_48 (lv_at hl 0 rfl) ?_
      refine lv_aload_n hx hb dX4_raise_50 rfl (lv_at hl 2 rfl) ?_
      refine lv_iconst (v := nI 1) hx hb dX4_raise_51 (by decide) ?_
      refine q_iald hx hb hK hits 1 (rfl) (by omega) (by decide) dX4_raise_52 ?_
      refine W.eq (g2 := F0 m 53 ls [.int (nI (lgN xa ya ea - 1)), .int (nI (fgN xa ya ea + i))]) rfl ?_
      refine lv_icmp_gt (tgt := 85) hx hb dX4_raise_53 (by decide) (fun c53 => ?_) (fun c53 => ?_)
      · skip
        have c53 : lgN xa ya ea - 1 < fgN xa ya ea + i := (nc_lt (a := lgN xa ya ea - 1) (b := fgN xa ya ea + i) (by omega) (by omega)).mp c53
        omega
      · skip
        have c53 : ¬ (lgN xa ya ea - 1 < fgN xa ya ea + i) := fun q9 => c53 ((nc_lt (a := lgN xa ya ea - 1) (b := fgN xa ya ea + i) (by omega) (by omega)).mpr q9)
        refine lv_aload_n hx hb dX4_raise_56 rfl (lv_at hl 4 rfl) ?_
        refine q_get (v := .ref (o + 47)) hx hb hts hin4 hown hK hw.ob rfl 4 (by decide) (hts (.fieldLink RX4 23 "PuddingstoneLineLaw$Stones" "values" "[[I") (by decide +kernel)) (fun _ h9 => h9) rfl dX4_raise_57 ?_
        refine lv_iload_n hx hb dX4_raise_60 rfl (lv_at hl 3 rfl) ?_
        refine q_aald hx hb hK 5 rfl rfl hw.vs k1 (rfl) (by omega) (by decide) (b := vv k1) rfl dX4_raise_61 ?_
        refine lv_iload hx hb dX4_raise_62 (lv_at hl 0 rfl) ?_
        refine lv_aload_n hx hb dX4_raise_64 rfl (lv_at hl 4 rfl) ?_
        refine q_get (v := .ref (o + 47)) hx hb hts hin4 hown hK hw.ob rfl 4 (by decide) (hts (.fieldLink RX4 23 "PuddingstoneLineLaw$Stones" "values" "[[I") (by decide +kernel)) (fun _ h9 => h9) rfl dX4_raise_65 ?_
        refine lv_iload_n hx hb dX4_raise_68 rfl (lv_at hl 3 rfl) ?_
        refine q_aald hx hb hK 5 rfl rfl hw.vs k1 (rfl) (by omega) (by decide) (b := vv k1) rfl dX4_raise_69 ?_
        refine lv_iload hx hb dX4_raise_70 (lv_at hl 0 rfl) ?_
        refine q_iald hx hb hK (hw.uU (by omega)) (fgN xa ya ea + i) (rfl) (by omega) (by decide) dX4_raise_72 ?_
        rw [raS_at]
        refine lv_iload_n hx hb dX4_raise_73 rfl (lv_at hl 1 rfl) ?_
        refine lv_iadd hx hb dX4_raise_74 ?_
        refine vp_callSi (va_runS (As := [.int (((U k1) (fgN xa ya ea + i)) + ((nI k3) - (nI 10)))]) (rest := [.int (nI (fgN xa ya ea + i)), .ref (vv k1)]) ⟨hx, hb, hml, hown, hts⟩ (conX4_kept l D T (((U k1) (fgN xa ya ea + i)) + ((nI k3) - (nI 10)))) (va_cwS 1 hts gX4_raise_X4_kept rfl rfl rfl (by decide +kernel) ⟨Nat.le_of_ble_eq_true rfl, Nat.le_of_ble_eq_true rfl⟩) (preS hK trivial) rfl rfl hl.1 rfl (lv_room (Nat.le_of_ble_eq_true rfl)) dX4_raise_75 ⟨Nat.le_of_ble_eq_true rfl, Nat.le_of_ble_eq_true rfl⟩).run (fun r3 hr3 => ?_)
        rw [hr3]
        refine q_iast hx hb hK (hw.uU (by omega)) (fgN xa ya ea + i) (rfl) (by omega) (by decide) hS (hA _ (by have h8 := (hw.u k1 (by omega)).1; omega)) dX4_raise_78 (fun H1 locs1 hw9 hz oq hS => ?_)
        replace hits := hits.ne oq (hits.len (hw.uU (by omega)) (by decide))
        replace hw := hw.setUU (by omega) hw9 oq
        refine lv_iinc (v := nI (fgN xa ya ea + i + 1)) (lv' := [(4, .int (nI (fgN xa ya ea + i + 1))), (3, .int ((nI k3) - (nI 10))), (2, .ref a1), (1, .int (nI k1)), (0, .ref o)]) hx hb dX4_raise_79 hl (k := 0) rfl (inc_1 _) (by decide) rfl (fun ls hl => ?_)
        refine lv_goto (tgt := 48) hx hb dX4_raise_82 (by decide) ?_
        have e4 : nI (fgN xa ya ea + i + 1) = nI (fgN xa ya ea + (i + 1)) := by rfl
        exact hnext _ _ _ ⟨hS, lv_sub (lv_ex hl 0 rfl (congrArg Value.int e4)) [0, 1, 2, 3, 4] rfl, hits, (by rw [raS_s] at hw; exact hw)⟩
    · skip
      intro H locs ls hin9
      obtain ⟨hS, hl, hits, hw⟩ := hin9
      refine lv_iload hx hb dX4_raise_48 (lv_at hl 0 rfl) ?_
      refine lv_aload_n hx hb dX4_raise_50 rfl (lv_at hl 2 rfl) ?_
      refine lv_iconst (v := nI 1) hx hb dX4_raise_51 (by decide) ?_
      refine q_iald hx hb hK hits 1 (rfl) (by omega) (by decide) dX4_raise_52 ?_
      refine W.eq (g2 := F0 m 53 ls [.int (nI (lgN xa ya ea - 1)), .int (nI (fgN xa ya ea + (lgN xa ya ea - fgN xa ya ea)))]) rfl ?_
      refine lv_icmp_gt (tgt := 85) hx hb dX4_raise_53 (by decide) (fun c53 => ?_) (fun c53 => ?_)
      · skip
        have c53 : lgN xa ya ea - 1 < fgN xa ya ea + (lgN xa ya ea - fgN xa ya ea) := (nc_lt (a := lgN xa ya ea - 1) (b := fgN xa ya ea + (lgN xa ya ea - fgN xa ya ea)) (by omega) (by omega)).mp c53
        refine lv_aload_n hx hb dX4_raise_85 rfl (lv_at hl 4 rfl) ?_
        refine q_get (v := .ref (ad 0)) hx hb hts hin4 hown hK hw.ob rfl 0 (by decide) (hts (.fieldLink RX4 10 "PuddingstoneLineLaw$Stones" "m" "LPuddingstoneLine;") (by decide +kernel)) (fun _ h9 => h9) rfl dX4_raise_86 ?_
        refine lv_iload_n hx hb dX4_raise_89 rfl (lv_at hl 3 rfl) ?_
        refine lv_aload_n hx hb dX4_raise_90 rfl (lv_at hl 2 rfl) ?_
        refine lv_iconst (v := nI 2) hx hb dX4_raise_91 (by decide) ?_
        refine q_iald hx hb hK hits 2 (rfl) (by omega) (by decide) dX4_raise_92 ?_
        refine W.eq (g2 := F0 m 93 ls [.int (nI xa), .int (nI k1), .ref (ad 0)]) rfl ?_
        refine lv_aload_n hx hb dX4_raise_93 rfl (lv_at hl 2 rfl) ?_
        refine lv_iconst (v := nI 3) hx hb dX4_raise_94 (by decide) ?_
        refine q_iald hx hb hK hits 3 (rfl) (by omega) (by decide) dX4_raise_95 ?_
        refine W.eq (g2 := F0 m 96 ls [.int (nI ya), .int (nI xa), .int (nI k1), .ref (ad 0)]) rfl ?_
        refine lv_aload_n hx hb dX4_raise_96 rfl (lv_at hl 2 rfl) ?_
        refine lv_iconst (v := nI 4) hx hb dX4_raise_97 (by decide) ?_
        refine q_iald hx hb hK hits 4 (rfl) (by omega) (by decide) dX4_raise_98 ?_
        refine W.eq (g2 := F0 m 99 ls [.int (nI ea), .int (nI ya), .int (nI xa), .int (nI k1), .ref (ad 0)]) rfl ?_
        refine lv_iload_n hx hb dX4_raise_99 rfl (lv_at hl 1 rfl) ?_
        refine va_calli (va_runV (As := [.int (nI k1), .int (nI xa), .int (nI ya), .int (nI ea), .int ((nI k3) - (nI 10))]) (rest := []) ⟨hx, hb, hml, hown, hts⟩ (conX3_raise l D T ad F V sr C k1 (by omega) xa ya ea ((nI k3) - (nI 10)) (by omega) (by omega) (by omega) (rg_lo (by omega) (by omega) (by show (-1000 : Int) ≤ _; omega)) (rg_hi (by omega) (by omega) (by omega) (by omega))) (cwV 5 hts gX4_raise_X3_raise rfl rfl rfl (by decide +kernel) ⟨Nat.le_of_ble_eq_true rfl, Nat.le_of_ble_eq_true rfl⟩) (preV hK hw.pl.o rfl hw.pl) rfl rfl hl.1 rfl (lv_room (Nat.le_of_ble_eq_true rfl)) dX4_raise_100 ⟨Nat.le_of_ble_eq_true rfl, Nat.le_of_ble_eq_true rfl⟩) hS (fun q _ h9 => (by obtain ⟨i9, h8, rfl⟩ := h9; exact hA _ (by have := hw.1 i9 h8; omega))) (fun q h9 => (by obtain ⟨i9, h8, rfl⟩ := h9; exact hA _ (by have := hw.1 i9 h8; omega))) (fun r u t H1 locs1 ht hvm hw9 hB hz1 hk1 hS => ?_)
        try dsimp only at hB
        rw [ht] at hB
        rw [hw9]
        replace hits := hits.kept (hk1 _ hits.lt (fun ⟨i9, h8, h7⟩ => by have := hw.1 i9 h8; omega))
        replace hw := hw.setP hB (fun q h1 h2 => hk1 q h1 h2)
        refine lv_aload_n hx hb dX4_raise_103 rfl (lv_at hl 4 rfl) ?_
        refine q_get (v := .ref (o + 47)) hx hb hts hin4 hown hK hw.ob rfl 4 (by decide) (hts (.fieldLink RX4 23 "PuddingstoneLineLaw$Stones" "values" "[[I") (by decide +kernel)) (fun _ h9 => h9) rfl dX4_raise_104 ?_
        refine lv_iload_n hx hb dX4_raise_107 rfl (lv_at hl 3 rfl) ?_
        refine q_aald hx hb hK 5 rfl rfl hw.vs k1 (rfl) (by omega) (by decide) (b := vv k1) rfl dX4_raise_108 ?_
        refine vp_callSi (va_runS (As := [.ref (vv k1)]) (rest := [.int (stepsV (raiV (V k1) ((nI k3) - (nI 10)) (fgN xa ya ea) (lgN xa ya ea - fgN xa ya ea)) 200)]) ⟨hx, hb, hml, hown, hts⟩ (conX4_steps l D T (vv k1) (raS (U k1) ((nI k3) - (nI 10)) (fgN xa ya ea) (lgN xa ya ea - fgN xa ya ea))) (va_cwS 1 hts gX4_raise_X4_steps rfl rfl rfl (by decide +kernel) ⟨Nat.le_of_ble_eq_true rfl, Nat.le_of_ble_eq_true rfl⟩) (preS hK ((hw.uU (by omega)))) rfl rfl hl.1 rfl (lv_room (Nat.le_of_ble_eq_true rfl)) dX4_raise_109 ⟨Nat.le_of_ble_eq_true rfl, Nat.le_of_ble_eq_true rfl⟩).run (fun r5 hr5 => ?_)
        rw [hr5]
        have hfn := rai_fn (by omega) (hinv.2.2 k1 · (by omega)) (x := (nI k3) - (nI 10)) (lo := fgN xa ya ea) (n := lgN xa ya ea - fgN xa ya ea)
        have hans := steps_eq fun j hj => (hfn j hj).1.symm
        refine lv_icmp_ne (tgt := 119) hx hb dX4_raise_112 (by decide) (fun c112 => ?_) (fun c112 => ?_)
        · skip
          exact absurd hans c112
        · skip
          refine lv_iconst (v := nI 1) hx hb dX4_raise_115 (by decide) ?_
          refine lv_goto (tgt := 120) hx hb dX4_raise_116 (by decide) ?_
          exact W.zret (v := nI 1) hx hb hr (rfl) (fun t ht _ => ⟨⟨nI 1, (), rfl, by rfl, by dsimp only; rw [ht]; exact ⟨_, _, _, _, _, _, _, _, _, by omega, (by have h8 := hS.1; omega), hw, hinv.fun (k := k1) up_nf (by rw [va_up_s]; exact hfn)⟩⟩, hS.F ht⟩) hS.2.2 dX4_raise_120
      · skip
        have c53 : ¬ (lgN xa ya ea - 1 < fgN xa ya ea + (lgN xa ya ea - fgN xa ya ea)) := fun q9 => c53 ((nc_lt (a := lgN xa ya ea - 1) (b := fgN xa ya ea + (lgN xa ya ea - fgN xa ya ea)) (by omega) (by omega)).mpr q9)
        omega
  · skip
    have c16 : k2 = 0 := (nc_eq (a := k2) (b := 0) (by omega) (by omega)).mp c16
    refine lv_aload_n hx hb dX4_raise_19 rfl (lv_at hl 2 rfl) ?_
    refine lv_sipush (v := nI 2001) hx hb dX4_raise_20 (by decide) ?_
    refine va_calli (va_runV (As := [.int (nI 2001)]) (rest := []) ⟨hx, hb, hml, hown, hts⟩ (conX4_draw l D T ad o sc N sf (dr + 1 + 4 + 1) F V sr C L U la vv (by omega) (by omega) 2001 (by omega) (by omega)) (cwV 1 hts gX4_raise_X4_draw rfl rfl rfl (by decide +kernel) ⟨Nat.le_of_ble_eq_true rfl, Nat.le_of_ble_eq_true rfl⟩) (preV hK hw.ob rfl hw) rfl rfl hl.1 rfl (lv_room (Nat.le_of_ble_eq_true rfl)) dX4_raise_23 ⟨Nat.le_of_ble_eq_true rfl, Nat.le_of_ble_eq_true rfl⟩) hS (fun q _ h9 => (by have h8 : q = o := h9; rw [h8]; exact hA_o)) (fun q h9 => (by have h8 : q = o := h9; rw [h8]; exact hA_o)) (fun r u t H1 locs1 ht hvm hw9 hB hz1 hk1 hS => ?_)
    try dsimp only at hB
    rw [ht] at hB
    obtain ⟨k3, hk3, rfl⟩ := hw9
    replace hits := hits.kept (hk1 _ hits.lt (fun h9 => by have h8 : _ = o := h9; omega))
    replace hw := hB
    refine lv_sipush (v := nI 1000) hx hb dX4_raise_26 (by decide) ?_
    refine lv_isub hx hb dX4_raise_29 ?_
    refine lv_goto (tgt := 42) hx hb dX4_raise_30 (by decide) ?_
    refine lv_istore_n (lv' := [(3, .int ((nI k3) - (nI 1000))), (2, .ref a1), (1, .int (nI k1)), (0, .ref o)]) hx hb dX4_raise_42 rfl hl (by decide) rfl (fun ls hl => ?_)
    refine lv_aload_n hx hb dX4_raise_43 rfl (lv_at hl 1 rfl) ?_
    refine lv_iconst (v := nI 0) hx hb dX4_raise_44 (by decide) ?_
    refine q_iald hx hb hK hits 0 (rfl) (by omega) (by decide) dX4_raise_45 ?_
    refine W.eq (g2 := F0 m 46 ls [.int (nI (fgN xa ya ea))]) rfl ?_
    refine lv_istore (lv' := [(4, .int (nI (fgN xa ya ea))), (3, .int ((nI k3) - (nI 1000))), (2, .ref a1), (1, .int (nI k1)), (0, .ref o)]) hx hb dX4_raise_46 hl (by decide) rfl (fun ls hl => ?_)
    refine q_for (fun (i : Nat) (H : Heap) (locs : List Loc) (ls : Array Slot) => va_S A s.heap H locs ∧ lv_has ls 5 [(4, .int (nI (fgN xa ya ea + i))), (3, .int ((nI k3) - (nI 1000))), (2, .ref a1), (1, .int (nI k1)), (0, .ref o)] ∧ pAt D H a1 (eN (T 1) 5 (an5 xa ya ea)) ∧ SW D T ad o sc N sf (dr + 1 + 4 + 1 + 1) F V sr C L (va_up U k1 (raS (U k1) ((nI k3) - (nI 1000)) (fgN xa ya ea) i)) la vv H) (N := (lgN xa ya ea - fgN xa ya ea)) 0 (by omega) ?_ ?_ ?_
    · skip
      have e6 : nI (fgN xa ya ea) = nI (fgN xa ya ea + 0) := by rfl
      exact ⟨hS, lv_sub (lv_ex hl 0 rfl (congrArg Value.int e6)) [0, 1, 2, 3, 4] rfl, hits, (by rw [raS_0, va_up_id]; exact hw)⟩
    · skip
      intro i H locs ls hi9 hin9 hnext
      obtain ⟨hS, hl, hits, hw⟩ := hin9
      refine lv_iload hx hb dX4_raise_48 (lv_at hl 0 rfl) ?_
      refine lv_aload_n hx hb dX4_raise_50 rfl (lv_at hl 2 rfl) ?_
      refine lv_iconst (v := nI 1) hx hb dX4_raise_51 (by decide) ?_
      refine q_iald hx hb hK hits 1 (rfl) (by omega) (by decide) dX4_raise_52 ?_
      refine W.eq (g2 := F0 m 53 ls [.int (nI (lgN xa ya ea - 1)), .int (nI (fgN xa ya ea + i))]) rfl ?_
      refine lv_icmp_gt (tgt := 85) hx hb dX4_raise_53 (by decide) (fun c53 => ?_) (fun c53 => ?_)
      · skip
        have c53 : lgN xa ya ea - 1 < fgN xa ya ea + i := (nc_lt (a := lgN xa ya ea - 1) (b := fgN xa ya ea + i) (by omega) (by omega)).mp c53
        omega
      · skip
        have c53 : ¬ (lgN xa ya ea - 1 < fgN xa ya ea + i) := fun q9 => c53 ((nc_lt (a := lgN xa ya ea - 1) (b := fgN xa ya ea + i) (by omega) (by omega)).mpr q9)
        refine lv_aload_n hx hb dX4_raise_56 rfl (lv_at hl 4 rfl) ?_
        refine q_get (v := .ref (o + 47)) hx hb hts hin4 hown hK hw.ob rfl 4 (by decide) (hts (.fieldLink RX4 23 "PuddingstoneLineLaw$Stones" "values" "[[I") (by decide +kernel)) (fun _ h9 => h9) rfl dX4_raise_57 ?_
        refine lv_iload_n hx hb dX4_raise_60 rfl (lv_at hl 3 rfl) ?_
        refine q_aald hx hb hK 5 rfl rfl hw.vs k1 (rfl) (by omega) (by decide) (b := vv k1) rfl dX4_raise_61 ?_
        refine lv_iload hx hb dX4_raise_62 (lv_at hl 0 rfl) ?_
        refine lv_aload_n hx hb dX4_raise_64 rfl (lv_at hl 4 rfl) ?_
        refine q_get (v := .ref (o + 47)) hx hb hts hin4 hown hK hw.ob rfl 4 (by decide) (hts (.fieldLink RX4 23 "PuddingstoneLineLaw$Stones" "values" "[[I") (by decide +kernel)) (fun _ h9 => h9) rfl dX4_raise_65 ?_
        refine lv_iload_n hx hb dX4_raise_68 rfl (lv_at hl 3 rfl) ?_
        refine q_aald hx hb hK 5 rfl rfl hw.vs k1 (rfl) (by omega) (by decide) (b := vv k1) rfl dX4_raise_69 ?_
        refine lv_iload hx hb dX4_raise_70 (lv_at hl 0 rfl) ?_
        refine q_iald hx hb hK (hw.uU (by omega)) (fgN xa ya ea + i) (rfl) (by omega) (by decide) dX4_raise_72 ?_
        rw [raS_at]
        refine lv_iload_n hx hb dX4_raise_73 rfl (lv_at hl 1 rfl) ?_
        refine lv_iadd hx hb dX4_raise_74 ?_
        refine vp_callSi (va_runS (As := [.int (((U k1) (fgN xa ya ea + i)) + ((nI k3) - (nI 1000)))]) (rest := [.int (nI (fgN xa ya ea + i)), .ref (vv k1)]) ⟨hx, hb, hml, hown, hts⟩ (conX4_kept l D T (((U k1) (fgN xa ya ea + i)) + ((nI k3) - (nI 1000)))) (va_cwS 1 hts gX4_raise_X4_kept rfl rfl rfl (by decide +kernel) ⟨Nat.le_of_ble_eq_true rfl, Nat.le_of_ble_eq_true rfl⟩) (preS hK trivial) rfl rfl hl.1 rfl (lv_room (Nat.le_of_ble_eq_true rfl)) dX4_raise_75 ⟨Nat.le_of_ble_eq_true rfl, Nat.le_of_ble_eq_true rfl⟩).run (fun r7 hr7 => ?_)
        rw [hr7]
        refine q_iast hx hb hK (hw.uU (by omega)) (fgN xa ya ea + i) (rfl) (by omega) (by decide) hS (hA _ (by have h8 := (hw.u k1 (by omega)).1; omega)) dX4_raise_78 (fun H1 locs1 hw9 hz oq hS => ?_)
        replace hits := hits.ne oq (hits.len (hw.uU (by omega)) (by decide))
        replace hw := hw.setUU (by omega) hw9 oq
        refine lv_iinc (v := nI (fgN xa ya ea + i + 1)) (lv' := [(4, .int (nI (fgN xa ya ea + i + 1))), (3, .int ((nI k3) - (nI 1000))), (2, .ref a1), (1, .int (nI k1)), (0, .ref o)]) hx hb dX4_raise_79 hl (k := 0) rfl (inc_1 _) (by decide) rfl (fun ls hl => ?_)
        refine lv_goto (tgt := 48) hx hb dX4_raise_82 (by decide) ?_
        have e8 : nI (fgN xa ya ea + i + 1) = nI (fgN xa ya ea + (i + 1)) := by rfl
        exact hnext _ _ _ ⟨hS, lv_sub (lv_ex hl 0 rfl (congrArg Value.int e8)) [0, 1, 2, 3, 4] rfl, hits, (by rw [raS_s] at hw; exact hw)⟩
    · skip
      intro H locs ls hin9
      obtain ⟨hS, hl, hits, hw⟩ := hin9
      refine lv_iload hx hb dX4_raise_48 (lv_at hl 0 rfl) ?_
      refine lv_aload_n hx hb dX4_raise_50 rfl (lv_at hl 2 rfl) ?_
      refine lv_iconst (v := nI 1) hx hb dX4_raise_51 (by decide) ?_
      refine q_iald hx hb hK hits 1 (rfl) (by omega) (by decide) dX4_raise_52 ?_
      refine W.eq (g2 := F0 m 53 ls [.int (nI (lgN xa ya ea - 1)), .int (nI (fgN xa ya ea + (lgN xa ya ea - fgN xa ya ea)))]) rfl ?_
      refine lv_icmp_gt (tgt := 85) hx hb dX4_raise_53 (by decide) (fun c53 => ?_) (fun c53 => ?_)
      · skip
        have c53 : lgN xa ya ea - 1 < fgN xa ya ea + (lgN xa ya ea - fgN xa ya ea) := (nc_lt (a := lgN xa ya ea - 1) (b := fgN xa ya ea + (lgN xa ya ea - fgN xa ya ea)) (by omega) (by omega)).mp c53
        refine lv_aload_n hx hb dX4_raise_85 rfl (lv_at hl 4 rfl) ?_
        refine q_get (v := .ref (ad 0)) hx hb hts hin4 hown hK hw.ob rfl 0 (by decide) (hts (.fieldLink RX4 10 "PuddingstoneLineLaw$Stones" "m" "LPuddingstoneLine;") (by decide +kernel)) (fun _ h9 => h9) rfl dX4_raise_86 ?_
        refine lv_iload_n hx hb dX4_raise_89 rfl (lv_at hl 3 rfl) ?_
        refine lv_aload_n hx hb dX4_raise_90 rfl (lv_at hl 2 rfl) ?_
        refine lv_iconst (v := nI 2) hx hb dX4_raise_91 (by decide) ?_
        refine q_iald hx hb hK hits 2 (rfl) (by omega) (by decide) dX4_raise_92 ?_
        refine W.eq (g2 := F0 m 93 ls [.int (nI xa), .int (nI k1), .ref (ad 0)]) rfl ?_
        refine lv_aload_n hx hb dX4_raise_93 rfl (lv_at hl 2 rfl) ?_
        refine lv_iconst (v := nI 3) hx hb dX4_raise_94 (by decide) ?_
        refine q_iald hx hb hK hits 3 (rfl) (by omega) (by decide) dX4_raise_95 ?_
        refine W.eq (g2 := F0 m 96 ls [.int (nI ya), .int (nI xa), .int (nI k1), .ref (ad 0)]) rfl ?_
        refine lv_aload_n hx hb dX4_raise_96 rfl (lv_at hl 2 rfl) ?_
        refine lv_iconst (v := nI 4) hx hb dX4_raise_97 (by decide) ?_
        refine q_iald hx hb hK hits 4 (rfl) (by omega) (by decide) dX4_raise_98 ?_
        refine W.eq (g2 := F0 m 99 ls [.int (nI ea), .int (nI ya), .int (nI xa), .int (nI k1), .ref (ad 0)]) rfl ?_
        refine lv_iload_n hx hb dX4_raise_99 rfl (lv_at hl 1 rfl) ?_
        refine va_calli (va_runV (As := [.int (nI k1), .int (nI xa), .int (nI ya), .int (nI ea), .int ((nI k3) - (nI 1000))]) (rest := []) ⟨hx, hb, hml, hown, hts⟩ (conX3_raise l D T ad F V sr C k1 (by omega) xa ya ea ((nI k3) - (nI 1000)) (by omega) (by omega) (by omega) (rg_lo (by omega) (by omega) (by show (-1000 : Int) ≤ _; omega)) (rg_hi (by omega) (by omega) (by omega) (by omega))) (cwV 5 hts gX4_raise_X3_raise rfl rfl rfl (by decide +kernel) ⟨Nat.le_of_ble_eq_true rfl, Nat.le_of_ble_eq_true rfl⟩) (preV hK hw.pl.o rfl hw.pl) rfl rfl hl.1 rfl (lv_room (Nat.le_of_ble_eq_true rfl)) dX4_raise_100 ⟨Nat.le_of_ble_eq_true rfl, Nat.le_of_ble_eq_true rfl⟩) hS (fun q _ h9 => (by obtain ⟨i9, h8, rfl⟩ := h9; exact hA _ (by have := hw.1 i9 h8; omega))) (fun q h9 => (by obtain ⟨i9, h8, rfl⟩ := h9; exact hA _ (by have := hw.1 i9 h8; omega))) (fun r u t H1 locs1 ht hvm hw9 hB hz1 hk1 hS => ?_)
        try dsimp only at hB
        rw [ht] at hB
        rw [hw9]
        replace hits := hits.kept (hk1 _ hits.lt (fun ⟨i9, h8, h7⟩ => by have := hw.1 i9 h8; omega))
        replace hw := hw.setP hB (fun q h1 h2 => hk1 q h1 h2)
        refine lv_aload_n hx hb dX4_raise_103 rfl (lv_at hl 4 rfl) ?_
        refine q_get (v := .ref (o + 47)) hx hb hts hin4 hown hK hw.ob rfl 4 (by decide) (hts (.fieldLink RX4 23 "PuddingstoneLineLaw$Stones" "values" "[[I") (by decide +kernel)) (fun _ h9 => h9) rfl dX4_raise_104 ?_
        refine lv_iload_n hx hb dX4_raise_107 rfl (lv_at hl 3 rfl) ?_
        refine q_aald hx hb hK 5 rfl rfl hw.vs k1 (rfl) (by omega) (by decide) (b := vv k1) rfl dX4_raise_108 ?_
        refine vp_callSi (va_runS (As := [.ref (vv k1)]) (rest := [.int (stepsV (raiV (V k1) ((nI k3) - (nI 1000)) (fgN xa ya ea) (lgN xa ya ea - fgN xa ya ea)) 200)]) ⟨hx, hb, hml, hown, hts⟩ (conX4_steps l D T (vv k1) (raS (U k1) ((nI k3) - (nI 1000)) (fgN xa ya ea) (lgN xa ya ea - fgN xa ya ea))) (va_cwS 1 hts gX4_raise_X4_steps rfl rfl rfl (by decide +kernel) ⟨Nat.le_of_ble_eq_true rfl, Nat.le_of_ble_eq_true rfl⟩) (preS hK ((hw.uU (by omega)))) rfl rfl hl.1 rfl (lv_room (Nat.le_of_ble_eq_true rfl)) dX4_raise_109 ⟨Nat.le_of_ble_eq_true rfl, Nat.le_of_ble_eq_true rfl⟩).run (fun r9 hr9 => ?_)
        rw [hr9]
        have hfn := rai_fn (by omega) (hinv.2.2 k1 · (by omega)) (x := (nI k3) - (nI 1000)) (lo := fgN xa ya ea) (n := lgN xa ya ea - fgN xa ya ea)
        have hans := steps_eq fun j hj => (hfn j hj).1.symm
        refine lv_icmp_ne (tgt := 119) hx hb dX4_raise_112 (by decide) (fun c112 => ?_) (fun c112 => ?_)
        · skip
          exact absurd hans c112
        · skip
          refine lv_iconst (v := nI 1) hx hb dX4_raise_115 (by decide) ?_
          refine lv_goto (tgt := 120) hx hb dX4_raise_116 (by decide) ?_
          exact W.zret (v := nI 1) hx hb hr (rfl) (fun t ht _ => ⟨⟨nI 1, (), rfl, by rfl, by dsimp only; rw [ht]; exact ⟨_, _, _, _, _, _, _, _, _, by omega, (by have h8 := hS.1; omega), hw, hinv.fun (k := k1) up_nf (by rw [va_up_s]; exact hfn)⟩⟩, hS.F ht⟩) hS.2.2 dX4_raise_120
      · skip
        have c53 : ¬ (lgN xa ya ea - 1 < fgN xa ya ea + (lgN xa ya ea - fgN xa ya ea)) := fun q9 => c53 ((nc_lt (a := lgN xa ya ea - 1) (b := fgN xa ya ea + (lgN xa ya ea - fgN xa ya ea)) (by omega) (by omega)).mpr q9)
        omega
