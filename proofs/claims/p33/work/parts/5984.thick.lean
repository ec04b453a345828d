/-! STONES: THICK -/
theorem p2_le {i : Nat} (h : i < 8) : 1 ≤ 2 ^ i ∧ 2 ^ i ≤ 128 := by
  rcases (show i = 0 ∨ i = 1 ∨ i = 2 ∨ i = 3 ∨ i = 4 ∨ i = 5 ∨ i = 6 ∨ i = 7 by omega) with rfl | rfl | rfl | rfl | rfl | rfl | rfl | rfl <;> decide
/-- a row whose first n values are written anew -/
def prS (u v : Nat → Int32) (n : Nat) : Nat → Int32 := fun g => if g < n then v g else u g
theorem prS_0 (u v : Nat → Int32) : prS u v 0 = u := by
  funext g
  unfold prS
  rw [if_neg (Nat.not_lt_zero g)]
theorem prS_s {u v : Nat → Int32} {n : Nat} {x : Int32} (h : x = v n) : upd (prS u v n) n x = prS u v (n + 1) := by
  funext g
  rw [upd_at]
  unfold prS
  by_cases e : g = n
  · rw [if_pos e, if_pos (by omega), h, e]
  · rw [if_neg e]
    by_cases c : g < n
    · rw [if_pos c, if_pos (by omega)]
    · rw [if_neg c, if_neg (by omega)]
/-- in how many sets of a family a grain is -/
def thkN (F : Nat → Nat → Int32) (fam g n : Nat) : Nat := itr (fun k c => if fam / 2 ^ k % 2 = 1 then (if pB (F k) g = true then c + 1 else c) else c) n 0
theorem thkN_s (F : Nat → Nat → Int32) (fam g n : Nat) : thkN F fam g (n + 1) = if fam / 2 ^ n % 2 = 1 then (if pB (F n) g = true then thkN F fam g n + 1 else thkN F fam g n) else thkN F fam g n := rfl
theorem thkN_le (F : Nat → Nat → Int32) (fam g n : Nat) : thkN F fam g n ≤ n := by
  induction n with
  | zero => exact Nat.le_refl _
  | succ n ih =>
    rw [thkN_s]
    split
    · split <;> omega
    · omega
theorem thkZ_n (F : Nat → Nat → Int32) (fam g n : Nat) : thkZ F fam (nI g) n = nI (thkN F fam g n) := by
  induction n with
  | zero => rfl
  | succ n ih =>
    rw [thkZ_s, thkN_s, ih]
    by_cases c : fam / 2 ^ n % 2 = 1
    · rw [if_pos c, if_pos c]
      by_cases c2 : holdZ (F n) (nI g) = 0
      · rw [if_pos c2, if_neg (by rw [pB_n.mpr c2]; decide)]
      · rw [if_neg c2, if_pos (pB_y.mpr c2)]
        exact nI_1 _
    · rw [if_neg c, if_neg c]
theorem thk_fn (F : Nat → Nat → Int32) (fam : Nat) (v u : Nat → Int32) : ∀ g : Nat, g < 201 → prS u (fun g => thkZ F fam (nI g) 8) 201 g = tkV F fam v 201 g ∧ inL (tkV F fam v 201 g) := by
  intro g hg
  rw [tkV_h F fam v g hg]
  unfold prS
  rw [if_pos hg]
  have h1 := thkN_le F fam g 8
  have h2 : inL (thkZ F fam (nI g) 8) := by
    rw [thkZ_n]
    unfold inL
    rw [nI_toInt (by omega)]
    omega
  exact ⟨(kepS_id h2).symm, kepS_in _⟩
set_option maxHeartbeats 4000000 in
set_option maxRecDepth 100000 in
theorem conX4_thick (l : Launch) (D : va_G) (T : Nat → ClassId) (ad : Nat → Nat) (o sc N : Nat) (sf : Nat → Int32) (dr : Nat) (F V : Nat → Nat → Int32) (sr : SRs) (C : Nat → Int32) (L : Nat → SL) (U : Nat → Nat → Int32) (la vv : Nat → Nat) (hN : N < 2 ^ 30) (hdr : dr < 2 ^ 30) (fam g : Nat) (hf : fam ≤ 255) (hg : g < 201) (hRR : ∀ k : Nat, k < 8 → Rep (pB (F k)) 201 (L k)) : Met l yX4_thick wsX4_thick ({ frames := 1, cells := 0, slots := 0, locals := 25 }) (cP D T [.ref o, .int (nI fam), .int (nI g)] (fun H => SW D T ad o sc N sf dr F V sr C L U la vv H)) (vp_Si (fun r => r = thkZ F fam (nI g) 8)) 0 0 (fun _ => False) := by
  refine Met.ofW (cc := cX4_thick) (maxL := 5) (ret := (some .int)) (by decide) rfl ?_
  intro p e s m args below meth c s₁ B hml hv9
  obtain ⟨rfl, hK, hw⟩ := hv9
  have hx := B.exec
  have hb := B.bytes
  have hr := B.returns
  have hts := atoms_spec (ws := wsX4_thick) B.pre
  have hown : s.vm.findClass RX4 = some m.cls := findClass_of_methodNamed B.named
  have hlocks := B.notSynchronized
  have hin4 : ∀ w ∈ wsX40, w ∈ wsX4_thick := by decide +kernel
  have hl := lv_entry ([.ref o, .int (nI fam), .int (nI g)]) (n := 5) (Nat.le_of_ble_eq_true rfl)
  rw [lg_entry_eq]
  generalize (lg_sl ([.ref o, .int (nI fam), .int (nI g)]) ++ List.replicate (5 - (lg_sl ([.ref o, .int (nI fam), .int (nI g)])).length) Slot.unset).toArray = ls at hl ⊢
  have hl : lv_has ls 5 [(0, .ref o), (1, .int (nI fam)), (2, .int (nI g))] := hl
  refine lv_iconst (v := nI 0) hx hb dX4_thick_0 (by decide) ?_
  refine lv_istore_n (lv' := [(3, .int (nI 0)), (0, .ref o), (1, .int (nI fam)), (2, .int (nI g))]) hx hb dX4_thick_1 rfl hl (by decide) rfl (fun ls hl => ?_)
  refine lv_iconst (v := nI 0) hx hb dX4_thick_2 (by decide) ?_
  refine lv_istore (lv' := [(4, .int (nI 0)), (3, .int (nI 0)), (0, .ref o), (1, .int (nI fam)), (2, .int (nI g))]) hx hb dX4_thick_3 hl (by decide) rfl (fun ls hl => ?_)
  refine q_for (fun (i : Nat) (H : Heap) (locs : List Loc) (ls : Array Slot) => H = s.heap ∧ locs = [] ∧ lv_has ls 5 [(4, .int (nI i)), (3, .int (thkZ F fam (nI g) i)), (0, .ref o), (1, .int (nI fam)), (2, .int (nI g))]) (N := 8) 0 (by omega) ?_ ?_ ?_
  · skip
    have e1 : nI 0 = thkZ F fam (nI g) 0 := by rfl
    exact ⟨rfl, rfl, lv_sub (lv_ex hl 1 rfl (congrArg Value.int e1)) [0, 1, 2, 3, 4] rfl⟩
  · skip
    intro i H locs ls hi9 hin9 hnext
    obtain ⟨rfl, rfl, hl⟩ := hin9
    refine lv_iload hx hb dX4_thick_5 (lv_at hl 0 rfl) ?_
    refine lv_bipush (v := nI 8) hx hb dX4_thick_7 (by decide) ?_
    refine lv_icmp_ge (tgt := 47) hx hb dX4_thick_9 (by decide) (fun c9 => ?_) (fun c9 => ?_)
    · skip
      have c9 : 8 ≤ i := (nc_le (a := 8) (b := i) (by omega) (by omega)).mp c9
      omega
    · skip
      have c9 : ¬ (8 ≤ i) := fun q9 => c9 ((nc_le (a := 8) (b := i) (by omega) (by omega)).mpr q9)
      refine lv_iload_n hx hb dX4_thick_12 rfl (lv_at hl 3 rfl) ?_
      refine lv_iconst (v := nI 1) hx hb dX4_thick_13 (by decide) ?_
      refine lv_iload hx hb dX4_thick_14 (lv_at hl 0 rfl) ?_
      refine lv_ishl hx hb dX4_thick_16 ?_
      have hd9 := Nat.div_le_self fam (2 ^ i)
      have hp9 := p2_le (show i < 8 by omega)
      rw [two_k (by omega)]
      refine lv_idiv hx hb dX4_thick_17 (fun h9 => by have h8 := (nc_eq (a := 2 ^ i) (b := 0) (by omega) (by decide)).mp h9; omega) ?_
      rw [pk_div (a := fam) (d := 2 ^ i) (by omega) (by omega) (by omega)]
      refine lv_iconst (v := nI 2) hx hb dX4_thick_18 (by decide) ?_
      refine lv_irem hx hb dX4_thick_19 (by decide) ?_
      rw [pk_rem (a := fam / (2 ^ i)) (d := 2) (by omega) (by omega) (by omega)]
      refine lv_iconst (v := nI 1) hx hb dX4_thick_20 (by decide) ?_
      refine lv_icmp_ne (tgt := 41) hx hb dX4_thick_21 (by decide) (fun c21 => ?_) (fun c21 => ?_)
      · skip
        have c21 : ¬ ((fam / (2 ^ i)) % 2 = 1) := fun q9 => c21 ((nc_eq (a := (fam / (2 ^ i)) % 2) (b := 1) (by omega) (by omega)).mpr q9)
        refine lv_iinc (v := nI (i + 1)) (lv' := [(4, .int (nI (i + 1))), (3, .int (thkZ F fam (nI g) i)), (0, .ref o), (1, .int (nI fam)), (2, .int (nI g))]) hx hb dX4_thick_41 hl (k := 0) rfl (inc_1 _) (by decide) rfl (fun ls hl => ?_)
        refine lv_goto (tgt := 5) hx hb dX4_thick_44 (by decide) ?_
        have e2 : thkZ F fam (nI g) i = thkZ F fam (nI g) (i + 1) := by first | (rw [thkZ_s, if_neg c21]; done) | (rw [thkZ_s, if_pos c21, if_pos (pB_n.mp hj1)]; done) | (rw [thkZ_s, if_pos c21, if_neg (pB_y.mp hj1)]; done)
        exact hnext _ _ _ ⟨rfl, rfl, lv_sub (lv_ex hl 1 rfl (congrArg Value.int e2)) [0, 1, 2, 3, 4] rfl⟩
      · skip
        have c21 : (fam / (2 ^ i)) % 2 = 1 := (nc_eq (a := (fam / (2 ^ i)) % 2) (b := 1) (by omega) (by omega)).mp c21
        refine lv_aload_n hx hb dX4_thick_24 rfl (lv_at hl 2 rfl) ?_
        refine q_get (v := .ref (o + 38)) hx hb hts hin4 hown hK hw.ob rfl 3 (by decide) (hts (.fieldLink RX4 18 "PuddingstoneLineLaw$Stones" "sets" "[[[I") (by decide +kernel)) (fun _ h9 => h9) rfl dX4_thick_25 ?_
        refine lv_iload hx hb dX4_thick_28 (lv_at hl 0 rfl) ?_
        refine q_aald hx hb hK 8 rfl rfl hw.ss i rfl (by omega) (by decide) (b := la i) rfl dX4_thick_30 ?_
        obtain ⟨hla1, hln1, ads1, hi1⟩ := hw.il i (by omega)
        have hR1 := hRR i (by omega)
        refine lv_iload_n hx hb dX4_thick_31 rfl (lv_at hl 4 rfl) ?_
        refine vp_callSi (va_runS (As := [.ref (la i), .int (nI g)]) (rest := []) ⟨hx, hb, hml, hown, hts⟩ (conX4_isIn l D T (o + 53) (la i) (fun k => ads1 k) ((L i).1) ((L i).2.1) ((L i).2.2) (fun k hk => hR1.sp hk) hR1.1.le g (by omega)) (va_cwS 2 hts gX4_thick_X4_isIn rfl rfl rfl (by decide +kernel) ⟨Nat.le_of_ble_eq_true rfl, Nat.le_of_ble_eq_true rfl⟩) (preS hK hi1) rfl rfl hl.1 rfl (lv_room (Nat.le_of_ble_eq_true rfl)) dX4_thick_32 ⟨Nat.le_of_ble_eq_true rfl, Nat.le_of_ble_eq_true rfl⟩).run (fun r3 hr3 => ?_)
        rcases hr3 with ⟨rfl, hj1⟩ | ⟨rfl, hj1⟩
        · skip
          replace hj1 := in_pB hR1 (by omega) hj1
          refine W.eq (g2 := F0 m 35 ls [.int (nI 1)]) rfl ?_
          refine lv_if_eq (tgt := 41) hx hb dX4_thick_35 (by decide) (fun c35 => ?_) (fun c35 => ?_)
          · skip
            have c35 : 1 = 0 := (nc_eq (a := 1) (b := 0) (by omega) (by omega)).mp c35
            omega
          · skip
            have c35 : ¬ (1 = 0) := fun q9 => c35 ((nc_eq (a := 1) (b := 0) (by omega) (by omega)).mpr q9)
            refine lv_iinc (v := (thkZ F fam (nI g) i) + 1) (lv' := [(3, .int ((thkZ F fam (nI g) i) + 1)), (4, .int (nI i)), (0, .ref o), (1, .int (nI fam)), (2, .int (nI g))]) hx hb dX4_thick_38 hl (k := 1) rfl (rfl) (by decide) rfl (fun ls hl => ?_)
            refine lv_iinc (v := nI (i + 1)) (lv' := [(4, .int (nI (i + 1))), (3, .int ((thkZ F fam (nI g) i) + 1)), (0, .ref o), (1, .int (nI fam)), (2, .int (nI g))]) hx hb dX4_thick_41 hl (k := 1) rfl (inc_1 _) (by decide) rfl (fun ls hl => ?_)
            refine lv_goto (tgt := 5) hx hb dX4_thick_44 (by decide) ?_
            have e4 : (thkZ F fam (nI g) i) + 1 = thkZ F fam (nI g) (i + 1) := by first | (rw [thkZ_s, if_neg c21]; done) | (rw [thkZ_s, if_pos c21, if_pos (pB_n.mp hj1)]; done) | (rw [thkZ_s, if_pos c21, if_neg (pB_y.mp hj1)]; done)
            exact hnext _ _ _ ⟨rfl, rfl, lv_sub (lv_ex hl 1 rfl (congrArg Value.int e4)) [0, 1, 2, 3, 4] rfl⟩
        · skip
          replace hj1 := nin_pB hR1 (by omega) hj1
          refine W.eq (g2 := F0 m 35 ls [.int (nI 0)]) rfl ?_
          refine lv_if_eq (tgt := 41) hx hb dX4_thick_35 (by decide) (fun c35 => ?_) (fun c35 => ?_)
          · skip
            have c35 : 0 = 0 := (nc_eq (a := 0) (b := 0) (by omega) (by omega)).mp c35
            refine lv_iinc (v := nI (i + 1)) (lv' := [(4, .int (nI (i + 1))), (3, .int (thkZ F fam (nI g) i)), (0, .ref o), (1, .int (nI fam)), (2, .int (nI g))]) hx hb dX4_thick_41 hl (k := 0) rfl (inc_1 _) (by decide) rfl (fun ls hl => ?_)
            refine lv_goto (tgt := 5) hx hb dX4_thick_44 (by decide) ?_
            have e5 : thkZ F fam (nI g) i = thkZ F fam (nI g) (i + 1) := by first | (rw [thkZ_s, if_neg c21]; done) | (rw [thkZ_s, if_pos c21, if_pos (pB_n.mp hj1)]; done) | (rw [thkZ_s, if_pos c21, if_neg (pB_y.mp hj1)]; done)
            exact hnext _ _ _ ⟨rfl, rfl, lv_sub (lv_ex hl 1 rfl (congrArg Value.int e5)) [0, 1, 2, 3, 4] rfl⟩
          · skip
            have c35 : ¬ (0 = 0) := fun q9 => c35 ((nc_eq (a := 0) (b := 0) (by omega) (by omega)).mpr q9)
            omega
  · skip
    intro H locs ls hin9
    obtain ⟨rfl, rfl, hl⟩ := hin9
    refine lv_iload hx hb dX4_thick_5 (lv_at hl 0 rfl) ?_
    refine lv_bipush (v := nI 8) hx hb dX4_thick_7 (by decide) ?_
    refine lv_icmp_ge (tgt := 47) hx hb dX4_thick_9 (by decide) (fun c9 => ?_) (fun c9 => ?_)
    · skip
      have c9 : 8 ≤ 8 := (nc_le (a := 8) (b := 8) (by omega) (by omega)).mp c9
      refine lv_iload_n hx hb dX4_thick_47 rfl (lv_at hl 1 rfl) ?_
      exact W.iret (v := thkZ F fam (nI g) 8) hx hb hr (fun t ht _ => ⟨thkZ F fam (nI g) 8, rfl, by rfl, ht⟩) (fun q hq => absurd hq List.not_mem_nil) dX4_thick_48
    · skip
      have c9 : ¬ (8 ≤ 8) := fun q9 => c9 ((nc_le (a := 8) (b := 8) (by omega) (by omega)).mpr q9)
      omega

set_option maxHeartbeats 4000000 in
set_option maxRecDepth 100000 in
theorem conX4_thick_ (l : Launch) (D : va_G) (T : Nat → ClassId) (ad : Nat → Nat) (o sc N : Nat) (sf : Nat → Int32) (d : Nat) (hN : N < 2 ^ 30) (hd : d + 20 < 2 ^ 30) : Met l yX4_thick_ wsX4_thick_ ({ frames := 4, cells := 0, slots := 0, locals := 92 }) (cP D T [.ref o] (fun H => ST D T ad o sc N sf d H)) (va_Qi (fun (r : Int32) (_ : Unit) => r = nI 1) (fun _ t => ST D T ad o sc N sf (d + 10) t.heap) (fun z : Nat => o ≤ z)) 0 0 (fun z : Nat => o ≤ z) := by
  refine Met.ofW (cc := cX4_thick_) (maxL := 4) (ret := (some .boolean)) (by decide) rfl ?_
  intro p e s m args below meth c s₁ B hml hv9
  obtain ⟨rfl, hK, ⟨dr, F, V, sr, C, L, U, la, vv, hdr, ho9, hw, hinv⟩⟩ := hv9
  have hx := B.exec
  have hb := B.bytes
  have hr := B.returns
  have hts := atoms_spec (ws := wsX4_thick_) B.pre
  have hown : s.vm.findClass RX4 = some m.cls := findClass_of_methodNamed B.named
  have hlocks := B.notSynchronized
  have hin4 : ∀ w ∈ wsX40, w ∈ wsX4_thick_ := by decide +kernel
  generalize hAe : (fun z : Nat => o ≤ z) = A
  have hA : ∀ z : Nat, o ≤ z → A z := fun z h9 => by subst hAe; exact h9
  have hS : va_S A s.heap s.heap [] := va_S.rf
  have hl := lv_entry ([.ref o]) (n := 4) (Nat.le_of_ble_eq_true rfl)
  rw [lg_entry_eq]
  generalize (lg_sl ([.ref o]) ++ List.replicate (4 - (lg_sl ([.ref o])).length) Slot.unset).toArray = ls at hl ⊢
  have hl : lv_has ls 4 [(0, .ref o)] := hl
  have hA_o : A o := hA o (Nat.le_refl _)
  have hlt9 := hw.lt
  refine lv_aload_n hx hb dX4_thick__0 rfl (lv_at hl 0 rfl) ?_
  refine lv_iconst (v := nI 5) hx hb dX4_thick__1 (by decide) ?_
  refine va_calli (va_runV (As := [.int (nI 5)]) (rest := []) ⟨hx, hb, hml, hown, hts⟩ (conX4_draw l D T ad o sc N sf dr F V sr C L U la vv (by omega) (by omega) 5 (by omega) (by omega)) (cwV 1 hts gX4_thick__X4_draw rfl rfl rfl (by decide +kernel) ⟨Nat.le_of_ble_eq_true rfl, Nat.le_of_ble_eq_true rfl⟩) (preV hK hw.ob rfl hw) rfl rfl hl.1 rfl (lv_room (Nat.le_of_ble_eq_true rfl)) dX4_thick__2 ⟨Nat.le_of_ble_eq_true rfl, Nat.le_of_ble_eq_true rfl⟩) hS (fun q _ h9 => (by have h8 : q = o := h9; rw [h8]; exact hA_o)) (fun q h9 => (by have h8 : q = o := h9; rw [h8]; exact hA_o)) (fun r u t H1 locs1 ht hvm hw9 hB hz1 hk1 hS => ?_)
  try dsimp only at hB
  rw [ht] at hB
  obtain ⟨k1, hk1, rfl⟩ := hw9
  replace hw := hB
  refine lv_istore_n (lv' := [(1, .int (nI k1)), (0, .ref o)]) hx hb dX4_thick__5 rfl hl (by decide) rfl (fun ls hl => ?_)
  refine lv_aload_n hx hb dX4_thick__6 rfl (lv_at hl 1 rfl) ?_
  refine lv_sipush (v := nI 256) hx hb dX4_thick__7 (by decide) ?_
  refine va_calli (va_runV (As := [.int (nI 256)]) (rest := []) ⟨hx, hb, hml, hown, hts⟩ (conX4_draw l D T ad o sc N sf (dr + 1) F V sr C L U la vv (by omega) (by omega) 256 (by omega) (by omega)) (cwV 1 hts gX4_thick__X4_draw rfl rfl rfl (by decide +kernel) ⟨Nat.le_of_ble_eq_true rfl, Nat.le_of_ble_eq_true rfl⟩) (preV hK hw.ob rfl hw) rfl rfl hl.1 rfl (lv_room (Nat.le_of_ble_eq_true rfl)) dX4_thick__10 ⟨Nat.le_of_ble_eq_true rfl, Nat.le_of_ble_eq_true rfl⟩) hS (fun q _ h9 => (by have h8 : q = o := h9; rw [h8]; exact hA_o)) (fun q h9 => (by have h8 : q = o := h9; rw [h8]; exact hA_o)) (fun r u t H1 locs1 ht hvm hw9 hB hz1 hk1 hS => ?_)
  try dsimp only at hB
  rw [ht] at hB
  obtain ⟨k2, hk2, rfl⟩ := hw9
  replace hw := hB
  refine lv_istore_n (lv' := [(2, .int (nI k2)), (1, .int (nI k1)), (0, .ref o)]) hx hb dX4_thick__13 rfl hl (by decide) rfl (fun ls hl => ?_)
  refine lv_iconst (v := nI 0) hx hb dX4_thick__14 (by decide) ?_
  refine lv_istore_n (lv' := [(3, .int (nI 0)), (2, .int (nI k2)), (1, .int (nI k1)), (0, .ref o)]) hx hb dX4_thick__15 rfl hl (by decide) rfl (fun ls hl => ?_)
  refine q_for (fun (i : Nat) (H : Heap) (locs : List Loc) (ls : Array Slot) => va_S A s.heap H locs ∧ lv_has ls 4 [(3, .int (nI i)), (2, .int (nI k2)), (1, .int (nI k1)), (0, .ref o)] ∧ SW D T ad o sc N sf (dr + 1 + 1) F V sr C L (va_up U k1 (prS (U k1) (fun g => thkZ F k2 (nI g) 8) i)) la vv H) (N := 201) 0 (by omega) ?_ ?_ ?_
  · skip
    exact ⟨hS, lv_sub hl [0, 1, 2, 3] rfl, (by rw [prS_0, va_up_id]; exact hw)⟩
  · skip
    intro i H locs ls hi9 hin9 hnext
    obtain ⟨hS, hl, hw⟩ := hin9
    refine lv_iload_n hx hb dX4_thick__16 rfl (lv_at hl 0 rfl) ?_
    refine lv_sipush (v := nI 200) hx hb dX4_thick__17 (by decide) ?_
    refine lv_icmp_gt (tgt := 43) hx hb dX4_thick__20 (by decide) (fun c20 => ?_) (fun c20 => ?_)
    · skip
      have c20 : 200 < i := (nc_lt (a := 200) (b := i) (by omega) (by omega)).mp c20
      omega
    · skip
      have c20 : ¬ (200 < i) := fun q9 => c20 ((nc_lt (a := 200) (b := i) (by omega) (by omega)).mpr q9)
      refine lv_aload_n hx hb dX4_thick__23 rfl (lv_at hl 3 rfl) ?_
      refine q_get (v := .ref (o + 47)) hx hb hts hin4 hown hK hw.ob rfl 4 (by decide) (hts (.fieldLink RX4 23 "PuddingstoneLineLaw$Stones" "values" "[[I") (by decide +kernel)) (fun _ h9 => h9) rfl dX4_thick__24 ?_
      refine lv_iload_n hx hb dX4_thick__27 rfl (lv_at hl 2 rfl) ?_
      refine q_aald hx hb hK 5 rfl rfl hw.vs k1 (rfl) (by omega) (by decide) (b := vv k1) rfl dX4_thick__28 ?_
      refine lv_iload_n hx hb dX4_thick__29 rfl (lv_at hl 0 rfl) ?_
      refine lv_aload_n hx hb dX4_thick__30 rfl (lv_at hl 3 rfl) ?_
      refine lv_iload_n hx hb dX4_thick__31 rfl (lv_at hl 1 rfl) ?_
      refine lv_iload_n hx hb dX4_thick__32 rfl (lv_at hl 0 rfl) ?_
      refine vp_callSi (va_runV (As := [.int (nI k2), .int (nI i)]) (rest := [.int (nI i), .ref (vv k1)]) ⟨hx, hb, hml, hown, hts⟩ (conX4_thick l D T ad o sc N sf (dr + 1 + 1) F V sr C L (va_up U k1 (prS (U k1) (fun g => thkZ F k2 (nI g) 8) i)) la vv (by omega) (by omega) k2 i (by omega) (by omega) hinv.2.1) (cwV 2 hts gX4_thick__X4_thick rfl rfl rfl (by decide +kernel) ⟨Nat.le_of_ble_eq_true rfl, Nat.le_of_ble_eq_true rfl⟩) (preV hK hw.ob rfl hw) rfl rfl hl.1 rfl (lv_room (Nat.le_of_ble_eq_true rfl)) dX4_thick__33 ⟨Nat.le_of_ble_eq_true rfl, Nat.le_of_ble_eq_true rfl⟩).run (fun r1 hr1 => ?_)
      rw [hr1]
      refine q_iast hx hb hK (hw.uU (by omega)) i (rfl) (by omega) (by decide) hS (hA _ (by have h8 := (hw.u k1 (by omega)).1; omega)) dX4_thick__36 (fun H1 locs1 hw9 hz oq hS => ?_)
      replace hw := hw.setUU (by omega) hw9 oq
      refine lv_iinc (v := nI (i + 1)) (lv' := [(3, .int (nI (i + 1))), (2, .int (nI k2)), (1, .int (nI k1)), (0, .ref o)]) hx hb dX4_thick__37 hl (k := 0) rfl (inc_1 _) (by decide) rfl (fun ls hl => ?_)
      refine lv_goto (tgt := 16) hx hb dX4_thick__40 (by decide) ?_
      exact hnext _ _ _ ⟨hS, lv_sub hl [0, 1, 2, 3] rfl, (by rw [prS_s (v := fun g => thkZ F k2 (nI g) 8) rfl] at hw; exact hw)⟩
  · skip
    intro H locs ls hin9
    obtain ⟨hS, hl, hw⟩ := hin9
    refine lv_iload_n hx hb dX4_thick__16 rfl (lv_at hl 0 rfl) ?_
    refine lv_sipush (v := nI 200) hx hb dX4_thick__17 (by decide) ?_
    refine lv_icmp_gt (tgt := 43) hx hb dX4_thick__20 (by decide) (fun c20 => ?_) (fun c20 => ?_)
    · skip
      have c20 : 200 < 201 := (nc_lt (a := 200) (b := 201) (by omega) (by omega)).mp c20
      refine lv_aload_n hx hb dX4_thick__43 rfl (lv_at hl 3 rfl) ?_
      refine q_get (v := .ref (ad 0)) hx hb hts hin4 hown hK hw.ob rfl 0 (by decide) (hts (.fieldLink RX4 10 "PuddingstoneLineLaw$Stones" "m" "LPuddingstoneLine;") (by decide +kernel)) (fun _ h9 => h9) rfl dX4_thick__44 ?_
      refine lv_iload_n hx hb dX4_thick__47 rfl (lv_at hl 2 rfl) ?_
      refine lv_iload_n hx hb dX4_thick__48 rfl (lv_at hl 1 rfl) ?_
      refine va_calli (va_runV (As := [.int (nI k1), .int (nI k2)]) (rest := []) ⟨hx, hb, hml, hown, hts⟩ (conX3_thick l D T ad F V sr C k1 (by omega) k2 (by omega)) (cwV 2 hts gX4_thick__X3_thick rfl rfl rfl (by decide +kernel) ⟨Nat.le_of_ble_eq_true rfl, Nat.le_of_ble_eq_true rfl⟩) (preV hK hw.pl.o rfl hw.pl) rfl rfl hl.1 rfl (lv_room (Nat.le_of_ble_eq_true rfl)) dX4_thick__49 ⟨Nat.le_of_ble_eq_true rfl, Nat.le_of_ble_eq_true rfl⟩) hS (fun q _ h9 => (by obtain ⟨i9, h8, rfl⟩ := h9; exact hA _ (by have := hw.1 i9 h8; omega))) (fun q h9 => (by obtain ⟨i9, h8, rfl⟩ := h9; exact hA _ (by have := hw.1 i9 h8; omega))) (fun r u t H1 locs1 ht hvm hw9 hB hz1 hk1 hS => ?_)
      try dsimp only at hB
      rw [ht] at hB
      rw [hw9]
      replace hw := hw.setP hB (fun q h1 h2 => hk1 q h1 h2)
      refine lv_aload_n hx hb dX4_thick__52 rfl (lv_at hl 3 rfl) ?_
      refine q_get (v := .ref (o + 47)) hx hb hts hin4 hown hK hw.ob rfl 4 (by decide) (hts (.fieldLink RX4 23 "PuddingstoneLineLaw$Stones" "values" "[[I") (by decide +kernel)) (fun _ h9 => h9) rfl dX4_thick__53 ?_
      refine lv_iload_n hx hb dX4_thick__56 rfl (lv_at hl 2 rfl) ?_
      refine q_aald hx hb hK 5 rfl rfl hw.vs k1 (rfl) (by omega) (by decide) (b := vv k1) rfl dX4_thick__57 ?_
      refine vp_callSi (va_runS (As := [.ref (vv k1)]) (rest := [.int (stepsV (tkV F k2 (V k1) 201) 200)]) ⟨hx, hb, hml, hown, hts⟩ (conX4_steps l D T (vv k1) (prS (U k1) (fun g => thkZ F k2 (nI g) 8) 201)) (va_cwS 1 hts gX4_thick__X4_steps rfl rfl rfl (by decide +kernel) ⟨Nat.le_of_ble_eq_true rfl, Nat.le_of_ble_eq_true rfl⟩) (preS hK ((hw.uU (by omega)))) rfl rfl hl.1 rfl (lv_room (Nat.le_of_ble_eq_true rfl)) dX4_thick__58 ⟨Nat.le_of_ble_eq_true rfl, Nat.le_of_ble_eq_true rfl⟩).run (fun r2 hr2 => ?_)
      rw [hr2]
      have hfn := thk_fn F k2 (V k1) (U k1)
      have hans := steps_eq fun j hj => (hfn j hj).1.symm
      refine lv_icmp_ne (tgt := 68) hx hb dX4_thick__61 (by decide) (fun c61 => ?_) (fun c61 => ?_)
      · skip
        exact absurd hans c61
      · skip
        refine lv_iconst (v := nI 1) hx hb dX4_thick__64 (by decide) ?_
        refine lv_goto (tgt := 69) hx hb dX4_thick__65 (by decide) ?_
        exact W.zret (v := nI 1) hx hb hr (rfl) (fun t ht _ => ⟨⟨nI 1, (), rfl, by rfl, by dsimp only; rw [ht]; exact ⟨_, _, _, _, _, _, _, _, _, by omega, (by have h8 := hS.1; omega), hw, hinv.fun (k := k1) up_nf (by rw [va_up_s]; exact hfn)⟩⟩, hS.F ht⟩) hS.2.2 dX4_thick__69
    · skip
      have c20 : ¬ (200 < 201) := fun q9 => c20 ((nc_lt (a := 200) (b := 201) (by omega) (by omega)).mpr q9)
      omega
