/-! STONES: TURN -/
theorem upd_upd (f : Nat → Int32) (i : Nat) (x y : Int32) : upd (upd f i x) i y = upd f i y := by
  funext g
  rw [upd_at, upd_at, upd_at]
  by_cases e : g = i
  · rw [if_pos e, if_pos e]
  · rw [if_neg e, if_neg e, if_neg e]
theorem up_nf5 {α : Type} {F : Nat → α} {k : Nat} {c f : α} : ∀ j : Nat, j < 5 → j ≠ k → va_up (va_up F 5 c) k f j = F j := fun j h1 h => by rw [va_up_n _ _ h, va_up_n _ _ (by omega)]
theorem abs_ij {i j : Nat} (hi : i < 2 ^ 30) (hj : j < 2 ^ 30) : (if 0 ≤ nI j - nI i then nI j - nI i else 0 - (nI j - nI i)) = nI (j - i + (i - j)) := by
  have e := pk_sub_toInt hj hi
  have e0 : (0 : Int32).toInt = 0 := rfl
  by_cases c : 0 ≤ nI j - nI i
  · rw [if_pos c]
    rw [Int32.le_iff_toInt_le, e, e0] at c
    rw [pk_sub (by omega)]
    congr 1
    omega
  · rw [if_neg c]
    rw [Int32.le_iff_toInt_le, e, e0] at c
    refine Int32.toInt_inj.mp ?_
    rw [Int32.toInt_sub, e, e0, nI_toInt (by omega), Int.bmod_eq_of_le (by omega) (by omega)]
    omega
theorem sumO_y {u : Nat → Int32} {i : Nat} (h : i % 2 = 1) : sumO u i + u i = sumO u (i + 1) := by rw [sumO_s, if_pos h]
theorem sumO_n {u : Nat → Int32} {i : Nat} (h : ¬ i % 2 = 1) : sumO u i + nI 0 = sumO u (i + 1) := by
  rw [sumO_s, if_neg h]
  exact Int32.add_zero _
/-- what a value begins with -/
def iniV (u : Nat → Int32) (how g : Nat) : Int32 := if how = 0 then -(u g) else if how = 3 then kepS (sumO u (g + 1)) else if how = 4 then u (200 - g) else u g
theorem ini_0 {u : Nat → Int32} {how g : Nat} (h : how = 0) : iniV u how g = -(u g) := if_pos h
theorem ini_3 {u : Nat → Int32} {how g : Nat} (h : how = 3) : iniV u how g = kepS (sumO u (g + 1)) := by
  unfold iniV
  rw [if_neg (by omega), if_pos h]
theorem ini_4 {u : Nat → Int32} {how g : Nat} (h : how = 4) : iniV u how g = u (200 - g) := by
  unfold iniV
  rw [if_neg (by omega), if_neg (by omega), if_pos h]
theorem ini_x {u : Nat → Int32} {how g : Nat} (h0 : ¬ how = 0) (h3 : ¬ how = 3) (h4 : ¬ how = 4) : iniV u how g = u g := by
  unfold iniV
  rw [if_neg h0, if_neg h3, if_neg h4]
/-- whether a grain is looked at -/
def snP (how n g o : Nat) : Prop := (how = 1 ∧ o ≤ g) ∨ (how = 2 ∧ g ≤ o) ∨ (4 < how ∧ o ≤ g + n ∧ g ≤ o + n)
noncomputable def snN (how n g o : Nat) : Nat := @ite Nat (snP how n g o) (Classical.propDecidable _) 1 0
theorem snN_le (how n g o : Nat) : snN how n g o ≤ 1 := by
  unfold snN
  split <;> omega
theorem snN_0 {how n g o : Nat} : snN how n g o = 0 ↔ ¬ snP how n g o := by
  unfold snN
  by_cases c : snP how n g o
  · rw [if_pos c]
    exact ⟨fun q => (by cases q), fun q => absurd c q⟩
  · rw [if_neg c]
    exact ⟨fun _ => c, fun _ => rfl⟩
noncomputable def trW (u : Nat → Int32) (how n g j : Nat) : Int32 := itr (fun o m => if snN how n g o = 0 then m else if how = 6 then (if m ≤ u o then m else u o) else (if u o ≤ m then m else u o)) j (iniV u how g)
theorem trW_s (u : Nat → Int32) (how n g j : Nat) : trW u how n g (j + 1) = if snN how n g j = 0 then trW u how n g j else if how = 6 then (if trW u how n g j ≤ u j then trW u how n g j else u j) else (if u j ≤ trW u how n g j then trW u how n g j else u j) := by
  unfold trW
  rw [itr_s]
section TRW
variable {u : Nat → Int32} {how n g j : Nat}
theorem tr_s0 (h : snN how n g j = 0) : trW u how n g (j + 1) = trW u how n g j := by rw [trW_s, if_pos h]
theorem tr_6y (h : ¬ snN how n g j = 0) (h6 : how = 6) (c : ¬ trW u how n g j ≤ u j) : trW u how n g (j + 1) = u j := by rw [trW_s, if_neg h, if_pos h6, if_neg c]
theorem tr_6n (h6 : how = 6) (c : trW u how n g j ≤ u j) : trW u how n g (j + 1) = trW u how n g j := by
  rw [trW_s]
  by_cases h : snN how n g j = 0
  · rw [if_pos h]
  · rw [if_neg h, if_pos h6, if_pos c]
theorem tr_y (h : ¬ snN how n g j = 0) (h6 : ¬ how = 6) (c : ¬ u j ≤ trW u how n g j) : trW u how n g (j + 1) = u j := by rw [trW_s, if_neg h, if_neg h6, if_neg c]
theorem tr_n (h6 : ¬ how = 6) (c : u j ≤ trW u how n g j) : trW u how n g (j + 1) = trW u how n g j := by
  rw [trW_s]
  by_cases h : snN how n g j = 0
  · rw [if_pos h]
  · rw [if_neg h, if_neg h6, if_pos c]
theorem tr_none (h : ∀ o : Nat, ¬ snP how n g o) : trW u how n g j = iniV u how g := by
  induction j with
  | zero => rfl
  | succ j ih => rw [tr_s0 (snN_0.mpr (h j)), ih]
theorem tr_mx (h6 : ¬ how = 6) (hi : iniV u how g = u g) : (∀ o : Nat, o < j → snP how n g o → (u o).toInt ≤ (trW u how n g j).toInt) ∧ (u g).toInt ≤ (trW u how n g j).toInt ∧ (trW u how n g j = u g ∨ ∃ o : Nat, o < j ∧ snP how n g o ∧ trW u how n g j = u o) := by
  induction j with
  | zero =>
    have e : trW u how n g 0 = u g := hi
    rw [e]
    exact ⟨fun o q => absurd q (Nat.not_lt_zero o), Int.le_refl _, Or.inl rfl⟩
  | succ j ih =>
    obtain ⟨h1, h2, h3⟩ := ih
    by_cases c0 : snN how n g j = 0
    · rw [tr_s0 c0]
      refine ⟨fun o q1 q2 => ?_, h2, h3.imp id fun ⟨o, q1, q2⟩ => ⟨o, by omega, q2⟩⟩
      by_cases e : o = j
      · rw [e] at q2
        exact absurd q2 (snN_0.mp c0)
      · exact h1 o (by omega) q2
    · have hs : snP how n g j := Classical.byContradiction fun q => c0 (snN_0.mpr q)
      by_cases c : u j ≤ trW u how n g j
      · rw [tr_n h6 c]
        rw [Int32.le_iff_toInt_le] at c
        refine ⟨fun o q1 q2 => ?_, h2, h3.imp id fun ⟨o, q1, q2⟩ => ⟨o, by omega, q2⟩⟩
        by_cases e : o = j
        · rw [e]
          exact c
        · exact h1 o (by omega) q2
      · rw [tr_y c0 h6 c]
        rw [Int32.le_iff_toInt_le] at c
        refine ⟨fun o q1 q2 => ?_, by omega, Or.inr ⟨j, Nat.lt_succ_self j, hs, rfl⟩⟩
        by_cases e : o = j
        · rw [e]
          exact Int.le_refl _
        · have := h1 o (by omega) q2
          omega
theorem tr_mn (h6 : how = 6) (hi : iniV u how g = u g) : (∀ o : Nat, o < j → snP how n g o → (trW u how n g j).toInt ≤ (u o).toInt) ∧ (trW u how n g j).toInt ≤ (u g).toInt ∧ (trW u how n g j = u g ∨ ∃ o : Nat, o < j ∧ snP how n g o ∧ trW u how n g j = u o) := by
  induction j with
  | zero =>
    have e : trW u how n g 0 = u g := hi
    rw [e]
    exact ⟨fun o q => absurd q (Nat.not_lt_zero o), Int.le_refl _, Or.inl rfl⟩
  | succ j ih =>
    obtain ⟨h1, h2, h3⟩ := ih
    by_cases c0 : snN how n g j = 0
    · rw [tr_s0 c0]
      refine ⟨fun o q1 q2 => ?_, h2, h3.imp id fun ⟨o, q1, q2⟩ => ⟨o, by omega, q2⟩⟩
      by_cases e : o = j
      · rw [e] at q2
        exact absurd q2 (snN_0.mp c0)
      · exact h1 o (by omega) q2
    · have hs : snP how n g j := Classical.byContradiction fun q => c0 (snN_0.mpr q)
      by_cases c : trW u how n g j ≤ u j
      · rw [tr_6n h6 c]
        rw [Int32.le_iff_toInt_le] at c
        refine ⟨fun o q1 q2 => ?_, h2, h3.imp id fun ⟨o, q1, q2⟩ => ⟨o, by omega, q2⟩⟩
        by_cases e : o = j
        · rw [e]
          exact c
        · exact h1 o (by omega) q2
      · rw [tr_6y c0 h6 c]
        rw [Int32.le_iff_toInt_le] at c
        refine ⟨fun o q1 q2 => ?_, by omega, Or.inr ⟨j, Nat.lt_succ_self j, hs, rfl⟩⟩
        by_cases e : o = j
        · rw [e]
          exact Int.le_refl _
        · have := h1 o (by omega) q2
          omega
end TRW
theorem MxP.ext {p q : Nat → Prop} {n : Nat} {u v : Nat → Int32} {m : Int32} (h : MxP p n u m) (hp : ∀ o : Nat, o < n → (q o ↔ p o)) (hu : ∀ o : Nat, o < n → u o = v o) : MxP q n v m := by
  obtain ⟨h1, o, h2, h3, h4⟩ := h
  exact ⟨fun o2 a1 a2 => by rw [← hu o2 a1]; exact h1 o2 a1 ((hp o2 a1).mp a2), o, h2, (hp o h2).mpr h3, by rw [← hu o h2]; exact h4⟩
theorem MnP.ext {p q : Nat → Prop} {n : Nat} {u v : Nat → Int32} {m : Int32} (h : MnP p n u m) (hp : ∀ o : Nat, o < n → (q o ↔ p o)) (hu : ∀ o : Nat, o < n → u o = v o) : MnP q n v m := by
  obtain ⟨h1, o, h2, h3, h4⟩ := h
  exact ⟨fun o2 a1 a2 => by rw [← hu o2 a1]; exact h1 o2 a1 ((hp o2 a1).mp a2), o, h2, (hp o h2).mpr h3, by rw [← hu o h2]; exact h4⟩
theorem tr_Mx {u : Nat → Int32} {how n g : Nat} (hg : g < 201) (h6 : ¬ how = 6) (hi : iniV u how g = u g) (hs : snP how n g g) : MxP (snP how n g) 201 u (trW u how n g 201) := by
  obtain ⟨h1, h2, h3⟩ := tr_mx (n := n) (j := 201) h6 hi
  refine ⟨h1, ?_⟩
  rcases h3 with h3 | h3
  · exact ⟨g, hg, hs, h3⟩
  · exact h3
theorem tr_Mn {u : Nat → Int32} {how n g : Nat} (hg : g < 201) (h6 : how = 6) (hi : iniV u how g = u g) (hs : snP how n g g) : MnP (snP how n g) 201 u (trW u how n g 201) := by
  obtain ⟨h1, h2, h3⟩ := tr_mn (n := n) (j := 201) h6 hi
  refine ⟨h1, ?_⟩
  rcases h3 with h3 | h3
  · exact ⟨g, hg, hs, h3⟩
  · exact h3
theorem neg_in {x : Int32} (h : inL x) : inL (-x) := by
  unfold inL at h ⊢
  rw [Int32.toInt_neg, Int.bmod_eq_of_le (by omega) (by omega)]
  omega
theorem sumO_ext {u v : Nat → Int32} {n : Nat} (h : ∀ g : Nat, g < n → u g = v g) : sumO u n = sumO v n := by
  induction n with
  | zero => rfl
  | succ n ih => rw [sumO_s, sumO_s, ih fun g hg => h g (by omega), h n (Nat.lt_succ_self n)]
theorem MxP.in {p : Nat → Prop} {n : Nat} {v : Nat → Int32} {m : Int32} (h : MxP p n v m) (hn : n ≤ 201) (hv : ∀ g : Nat, g < 201 → inL (v g)) : inL m := by
  obtain ⟨-, o, h2, -, h4⟩ := h
  rw [h4]
  exact hv o (by omega)
theorem MnP.in {p : Nat → Prop} {n : Nat} {v : Nat → Int32} {m : Int32} (h : MnP p n v m) (hn : n ≤ 201) (hv : ∀ g : Nat, g < 201 → inL (v g)) : inL m := by
  obtain ⟨-, o, h2, -, h4⟩ := h
  rw [h4]
  exact hv o (by omega)
theorem trn_fn {V : Nat → Nat → Int32} {u : Nat → Int32} {k how n : Nat} (hk : k < 5) (hh : how ≤ 6) (hn : n ≤ 200) (h : ∀ g : Nat, g < 201 → u g = V k g ∧ inL (V k g)) : ∀ g : Nat, g < 201 → rowP (fun g => trW u how n g 201) 201 g = trnV (va_up V 5 (copyV (V 5) (V k) 201)) k how n g ∧ inL (trnV (va_up V 5 (copyV (V 5) (V k) 201)) k how n g) := by
  intro g hg
  have hG : va_up V 5 (copyV (V 5) (V k) 201) k = V k := va_up_n _ _ (by omega)
  have hV : ∀ j : Nat, j < 201 → inL (V k j) := fun j hj => (h j hj).2
  have hu : ∀ j : Nat, j < 201 → u j = V k j := fun j hj => (h j hj).1
  have h5 : ∀ j : Nat, j < 201 → copyV (V 5) (V k) 201 j = V k j := fun j hj => by rw [copyV_h (V 5) (V k) j hj, kepS_id (hV j hj)]
  have h5i : ∀ j : Nat, j < 201 → inL (copyV (V 5) (V k) 201 j) := fun j hj => by rw [h5 j hj]; exact hV j hj
  rw [rowP_at hg]
  unfold trnV
  rw [hG, va_up_s]
  by_cases c0 : how = 0
  · rw [if_pos c0, negV_h (V k) g hg, kepS_id (neg_in (hV g hg))]
    rw [tr_none fun o q => by unfold snP at q; omega, ini_0 c0, hu g hg]
    exact ⟨rfl, neg_in (hV g hg)⟩
  rw [if_neg c0]
  by_cases c1 : how = 1
  · rw [if_pos c1]
    have a1 := (cliV_h (V k) hV 200 (Nat.le_refl _)).1 g (by omega)
    have a2 := (tr_Mx (n := n) (how := how) hg (by omega) (ini_x (u := u) (by omega) (by omega) (by omega)) (by unfold snP; omega)).ext (q := fun o => o ≤ g) (fun o ho => by unfold snP; omega) hu
    exact ⟨a2.uniq a1, a1.in (Nat.le_refl _) hV⟩
  rw [if_neg c1]
  by_cases c2 : how = 2
  · rw [if_pos c2]
    have a1 := (criV_h (V k) hV 200 (Nat.le_refl _)).1 g (by omega) hg
    have a2 := (tr_Mx (n := n) (how := how) hg (by omega) (ini_x (u := u) (by omega) (by omega) (by omega)) (by unfold snP; omega)).ext (q := fun o => g ≤ o) (fun o ho => by unfold snP; omega) hu
    exact ⟨a2.uniq a1, a1.in (Nat.le_refl _) hV⟩
  rw [if_neg c2]
  by_cases c3 : how = 3
  · rw [if_pos c3, ((addV_h (V k) 201 (Nat.le_refl _)).2 g hg), if_pos hg]
    rw [tr_none fun o q => by unfold snP at q; omega, ini_3 c3, sumO_ext fun j hj => hu j (by omega)]
    exact ⟨rfl, kepS_in _⟩
  rw [if_neg c3]
  by_cases c4 : how = 4
  · rw [if_pos c4, mirV_h (V k) _ g hg, h5 (200 - g) (by omega), kepS_id (hV (200 - g) (by omega))]
    rw [tr_none fun o q => by unfold snP at q; omega, ini_4 c4, hu (200 - g) (by omega)]
    exact ⟨rfl, hV (200 - g) (by omega)⟩
  rw [if_neg c4]
  by_cases c5 : how = 5
  · rw [if_pos c5]
    have a1 := grnV_h (V k) (copyV (V 5) (V k) 201) n h5i g hg
    have a2 := (tr_Mx (n := n) (how := how) hg (by omega) (ini_x (u := u) (by omega) (by omega) (by omega)) (by unfold snP; omega)).ext (q := fun o => o ≤ g + n ∧ g ≤ o + n) (fun o ho => by unfold snP; omega) (fun o ho => (hu o ho).trans (h5 o ho).symm)
    exact ⟨a2.uniq a1, a1.in (Nat.le_refl _) h5i⟩
  · rw [if_neg c5]
    have a1 := lenV_h (V k) (copyV (V 5) (V k) 201) n h5i g hg
    have a2 := (tr_Mn (n := n) (how := how) hg (by omega) (ini_x (u := u) (by omega) (by omega) (by omega)) (by unfold snP; omega)).ext (q := fun o => o ≤ g + n ∧ g ≤ o + n) (fun o ho => by unfold snP; omega) (fun o ho => (hu o ho).trans (h5 o ho).symm)
    exact ⟨a2.uniq a1, a1.in (Nat.le_refl _) h5i⟩
set_option maxHeartbeats 4000000 in
set_option maxRecDepth 100000 in
theorem conX4_turn (l : Launch) (D : va_G) (T : Nat → ClassId) (ad : Nat → Nat) (o sc N : Nat) (sf : Nat → Int32) (d : Nat) (hN : N < 2 ^ 30) (hd : d + 20 < 2 ^ 30) : Met l yX4_turn wsX4_turn ({ frames := 5, cells := 1, slots := 201, locals := 115 }) (cP D T [.ref o] (fun H => ST D T ad o sc N sf d H)) (va_Qi (fun (r : Int32) (_ : Unit) => r = nI 1) (fun _ t => ST D T ad o sc N sf (d + 10) t.heap) (fun z : Nat => o ≤ z)) 1 201 (fun z : Nat => o ≤ z) := by
  refine Met.ofW (cc := cX4_turn) (maxL := 10) (ret := (some .boolean)) (by decide) rfl ?_
  intro p e s m args below meth c s₁ B hml hv9
  obtain ⟨rfl, hK, ⟨dr, F, V, sr, C, L, U, la, vv, hdr, ho9, hw, hinv⟩⟩ := hv9
  have hx := B.exec
  have hb := B.bytes
  have hr := B.returns
  have hts := atoms_spec (ws := wsX4_turn) B.pre
  have hown : s.vm.findClass RX4 = some m.cls := findClass_of_methodNamed B.named
  have hlocks := B.notSynchronized
  have hin4 : ∀ w ∈ wsX40, w ∈ wsX4_turn := by decide +kernel
  generalize hAe : (fun z : Nat => o ≤ z) = A
  have hA : ∀ z : Nat, o ≤ z → A z := fun z h9 => by subst hAe; exact h9
  have hS : va_S A s.heap s.heap [] := va_S.rf
  have hl := lv_entry ([.ref o]) (n := 10) (Nat.le_of_ble_eq_true rfl)
  rw [lg_entry_eq]
  generalize (lg_sl ([.ref o]) ++ List.replicate (10 - (lg_sl ([.ref o])).length) Slot.unset).toArray = ls at hl ⊢
  have hl : lv_has ls 10 [(0, .ref o)] := hl
  have hA_o : A o := hA o (Nat.le_refl _)
  have hlt9 := hw.lt
  refine lv_aload_n hx hb dX4_turn_0 rfl (lv_at hl 0 rfl) ?_
  refine lv_iconst (v := nI 5) hx hb dX4_turn_1 (by decide) ?_
  refine va_calli (va_runV (As := [.int (nI 5)]) (rest := []) ⟨hx, hb, hml, hown, hts⟩ (conX4_draw l D T ad o sc N sf dr F V sr C L U la vv (by omega) (by omega) 5 (by omega) (by omega)) (cwV 1 hts gX4_turn_X4_draw rfl rfl rfl (by decide +kernel) ⟨Nat.le_of_ble_eq_true rfl, Nat.le_of_ble_eq_true rfl⟩) (preV hK hw.ob rfl hw) rfl rfl hl.1 rfl (lv_room (Nat.le_of_ble_eq_true rfl)) dX4_turn_2 ⟨Nat.le_of_ble_eq_true rfl, Nat.le_of_ble_eq_true rfl⟩) hS (fun q _ h9 => (by have h8 : q = o := h9; rw [h8]; exact hA_o)) (fun q h9 => (by have h8 : q = o := h9; rw [h8]; exact hA_o)) (fun r u t H1 locs1 ht hvm hw9 hB hz1 hk1 hS => ?_)
  try dsimp only at hB
  rw [ht] at hB
  obtain ⟨k1, hk1, rfl⟩ := hw9
  replace hw := hB
  refine lv_istore_n (lv' := [(1, .int (nI k1)), (0, .ref o)]) hx hb dX4_turn_5 rfl hl (by decide) rfl (fun ls hl => ?_)
  refine lv_aload_n hx hb dX4_turn_6 rfl (lv_at hl 1 rfl) ?_
  refine lv_bipush (v := nI 7) hx hb dX4_turn_7 (by decide) ?_
  refine va_calli (va_runV (As := [.int (nI 7)]) (rest := []) ⟨hx, hb, hml, hown, hts⟩ (conX4_draw l D T ad o sc N sf (dr + 1) F V sr C L U la vv (by omega) (by omega) 7 (by omega) (by omega)) (cwV 1 hts gX4_turn_X4_draw rfl rfl rfl (by decide +kernel) ⟨Nat.le_of_ble_eq_true rfl, Nat.le_of_ble_eq_true rfl⟩) (preV hK hw.ob rfl hw) rfl rfl hl.1 rfl (lv_room (Nat.le_of_ble_eq_true rfl)) dX4_turn_9 ⟨Nat.le_of_ble_eq_true rfl, Nat.le_of_ble_eq_true rfl⟩) hS (fun q _ h9 => (by have h8 : q = o := h9; rw [h8]; exact hA_o)) (fun q h9 => (by have h8 : q = o := h9; rw [h8]; exact hA_o)) (fun r u t H1 locs1 ht hvm hw9 hB hz1 hk1 hS => ?_)
  try dsimp only at hB
  rw [ht] at hB
  obtain ⟨k2, hk2, rfl⟩ := hw9
  replace hw := hB
  refine lv_istore_n (lv' := [(2, .int (nI k2)), (1, .int (nI k1)), (0, .ref o)]) hx hb dX4_turn_12 rfl hl (by decide) rfl (fun ls hl => ?_)
  refine lv_aload_n hx hb dX4_turn_13 rfl (lv_at hl 2 rfl) ?_
  refine lv_iconst (v := nI 4) hx hb dX4_turn_14 (by decide) ?_
  refine va_calli (va_runV (As := [.int (nI 4)]) (rest := []) ⟨hx, hb, hml, hown, hts⟩ (conX4_draw l D T ad o sc N sf (dr + 1 + 1) F V sr C L U la vv (by omega) (by omega) 4 (by omega) (by omega)) (cwV 1 hts gX4_turn_X4_draw rfl rfl rfl (by decide +kernel) ⟨Nat.le_of_ble_eq_true rfl, Nat.le_of_ble_eq_true rfl⟩) (preV hK hw.ob rfl hw) rfl rfl hl.1 rfl (lv_room (Nat.le_of_ble_eq_true rfl)) dX4_turn_15 ⟨Nat.le_of_ble_eq_true rfl, Nat.le_of_ble_eq_true rfl⟩) hS (fun q _ h9 => (by have h8 : q = o := h9; rw [h8]; exact hA_o)) (fun q h9 => (by have h8 : q = o := h9; rw [h8]; exact hA_o)) (fun r u t H1 locs1 ht hvm hw9 hB hz1 hk1 hS => ?_)
  try dsimp only at hB
  rw [ht] at hB
  obtain ⟨k3, hk3, rfl⟩ := hw9
  replace hw := hB
  refine lv_if_ne (tgt := 31) hx hb dX4_turn_18 (by decide) (fun c18 => ?_) (fun c18 => ?_)
  · skip
    have c18 : ¬ (k3 = 0) := fun q9 => c18 ((nc_eq (a := k3) (b := 0) (by omega) (by omega)).mpr q9)
    refine lv_aload_n hx hb dX4_turn_31 rfl (lv_at hl 2 rfl) ?_
    refine lv_bipush (v := nI 9) hx hb dX4_turn_32 (by decide) ?_
    refine va_calli (va_runV (As := [.int (nI 9)]) (rest := []) ⟨hx, hb, hml, hown, hts⟩ (conX4_draw l D T ad o sc N sf (dr + 1 + 1 + 1) F V sr C L U la vv (by omega) (by omega) 9 (by omega) (by omega)) (cwV 1 hts gX4_turn_X4_draw rfl rfl rfl (by decide +kernel) ⟨Nat.le_of_ble_eq_true rfl, Nat.le_of_ble_eq_true rfl⟩) (preV hK hw.ob rfl hw) rfl rfl hl.1 rfl (lv_room (Nat.le_of_ble_eq_true rfl)) dX4_turn_34 ⟨Nat.le_of_ble_eq_true rfl, Nat.le_of_ble_eq_true rfl⟩) hS (fun q _ h9 => (by have h8 : q = o := h9; rw [h8]; exact hA_o)) (fun q h9 => (by have h8 : q = o := h9; rw [h8]; exact hA_o)) (fun r u t H1 locs1 ht hvm hw9 hB hz1 hk1 hS => ?_)
    try dsimp only at hB
    rw [ht] at hB
    obtain ⟨k4, hk4, rfl⟩ := hw9
    replace hw := hB
    refine lv_istore_n (lv' := [(3, .int (nI k4)), (2, .int (nI k2)), (1, .int (nI k1)), (0, .ref o)]) hx hb dX4_turn_37 rfl hl (by decide) rfl (fun ls hl => ?_)
    refine lv_aload_n hx hb dX4_turn_38 rfl (lv_at hl 3 rfl) ?_
    refine q_get (v := .ref (o + 47)) hx hb hts hin4 hown hK hw.ob rfl 4 (by decide) (hts (.fieldLink RX4 23 "PuddingstoneLineLaw$Stones" "values" "[[I") (by decide +kernel)) (fun _ h9 => h9) rfl dX4_turn_39 ?_
    refine lv_iload_n hx hb dX4_turn_42 rfl (lv_at hl 2 rfl) ?_
    refine q_aald hx hb hK 5 rfl rfl hw.vs k1 (rfl) (by omega) (by decide) (b := vv k1) rfl dX4_turn_43 ?_
    refine lv_astore (lv' := [(4, .ref (vv k1)), (3, .int (nI k4)), (2, .int (nI k2)), (1, .int (nI k1)), (0, .ref o)]) hx hb dX4_turn_44 hl (by decide) rfl (fun ls hl => ?_)
    refine lv_sipush (v := nI 201) hx hb dX4_turn_46 (by decide) ?_
    obtain ⟨Hw, hHw⟩ : ∃ z : Heap, z = H1 := ⟨_, rfl⟩
    obtain ⟨b1, hb1⟩ : ∃ z : Nat, z = H1.size := ⟨_, rfl⟩
    have ln_b1 : s.heap.size ≤ b1 := by have h8 := hS.1; omega
    have lw_b1 : Hw.size ≤ b1 := by rw [hHw]; omega
    refine q_newi hx hb (hts (.arrayClass .int) (by decide +kernel)) hK 201 rfl (by decide) (by show _ ≤ 1; omega) (by show _ ≤ 201; omega) hS dX4_turn_49 (fun H1 hw9 z1 o1 hS => ?_)
    rw [← hb1] at hw9 ⊢
    have nb1 := hw9
    have sb1 : H1.size = b1 + 1 := by omega
    rw [← hHw] at hw
    have hwk : ∀ z : Nat, z < Hw.size → H1[z]? = Hw[z]? := by rw [hHw]; exact fun z hz => o1 z (by omega)
    refine lv_astore (lv' := [(5, .ref b1), (4, .ref (vv k1)), (3, .int (nI k4)), (2, .int (nI k2)), (1, .int (nI k1)), (0, .ref o)]) hx hb dX4_turn_51 hl (by decide) rfl (fun ls hl => ?_)
    refine lv_iconst (v := nI 0) hx hb dX4_turn_53 (by decide) ?_
    refine lv_istore (lv' := [(6, .int (nI 0)), (5, .ref b1), (4, .ref (vv k1)), (3, .int (nI k4)), (2, .int (nI k2)), (1, .int (nI k1)), (0, .ref o)]) hx hb dX4_turn_54 hl (by decide) rfl (fun ls hl => ?_)
    refine lv_iconst (v := nI 0) hx hb dX4_turn_56 (by decide) ?_
    refine lv_istore (lv' := [(7, .int (nI 0)), (6, .int (nI 0)), (5, .ref b1), (4, .ref (vv k1)), (3, .int (nI k4)), (2, .int (nI k2)), (1, .int (nI k1)), (0, .ref o)]) hx hb dX4_turn_57 hl (by decide) rfl (fun ls hl => ?_)
    refine q_for (fun (i : Nat) (H : Heap) (locs : List Loc) (ls : Array Slot) => va_S A s.heap H locs ∧ lv_has ls 10 [(7, .int (nI i)), (6, .int (sumO (U k1) i)), (5, .ref b1), (4, .ref (vv k1)), (3, .int (nI k4)), (2, .int (nI k2)), (1, .int (nI k1)), (0, .ref o)] ∧ pAt D H b1 (eN (T 1) 201 (rowP (fun g => trW (U k1) k2 k4 g 201) i)) ∧ ∀ z : Nat, z < Hw.size → H[z]? = Hw[z]?) (N := 201) 0 (by omega) ?_ ?_ ?_
    · skip
      have e1 : nI 0 = sumO (U k1) 0 := by rfl
      have e2 : (eN (T 1) 201 zr0) = (eN (T 1) 201 (rowP (fun g => trW (U k1) k2 k4 g 201) 0)) := by (rw [rowP_0])
      exact ⟨hS, lv_sub (lv_ex hl 1 rfl (congrArg Value.int e1)) [0, 1, 2, 3, 4, 5, 6, 7] rfl, (by rw [← e2]; exact nb1), (by exact hwk)⟩
    · skip
      intro i H locs ls hi9 hin9 hnext
      obtain ⟨hS, hl, nb1, hwk⟩ := hin9
      refine lv_iload hx hb dX4_turn_59 (lv_at hl 0 rfl) ?_
      refine lv_sipush (v := nI 200) hx hb dX4_turn_61 (by decide) ?_
      refine lv_icmp_gt (tgt := 279) hx hb dX4_turn_64 (by decide) (fun c64 => ?_) (fun c64 => ?_)
      · skip
        have c64 : 200 < i := (nc_lt (a := 200) (b := i) (by omega) (by omega)).mp c64
        omega
      · skip
        have c64 : ¬ (200 < i) := fun q9 => c64 ((nc_lt (a := 200) (b := i) (by omega) (by omega)).mpr q9)
        refine W.join (g2 := F0 m 87 ls [.int (sumO (U k1) (i + 1))]) ?_ (fun kk => ?_)
        · skip
          refine lv_istore (lv' := [(6, .int (sumO (U k1) (i + 1))), (7, .int (nI i)), (5, .ref b1), (4, .ref (vv k1)), (3, .int (nI k4)), (2, .int (nI k2)), (1, .int (nI k1)), (0, .ref o)]) hx hb dX4_turn_87 hl (by decide) rfl (fun ls hl => ?_)
          refine lv_aload hx hb dX4_turn_89 (lv_at hl 2 rfl) ?_
          refine lv_iload hx hb dX4_turn_91 (lv_at hl 1 rfl) ?_
          refine W.join (g2 := F0 m 141 ls [.int (iniV (U k1) k2 i), .int (nI i), .ref b1]) ?_ (fun kk => ?_)
          · skip
            refine q_iast hx hb hK nb1 i (rfl) (by omega) (by decide) hS (hA _ (by omega)) dX4_turn_141 (fun H1 locs1 hw9 hz oq hS => ?_)
            have nb1 := hw9
            replace hwk := fun (z : Nat) (hz : z < Hw.size) => (oq z (by omega)).trans (hwk z hz)
            refine lv_iconst (v := nI 0) hx hb dX4_turn_142 (by decide) ?_
            refine lv_istore (lv' := [(8, .int (nI 0)), (6, .int (sumO (U k1) (i + 1))), (7, .int (nI i)), (5, .ref b1), (4, .ref (vv k1)), (3, .int (nI k4)), (2, .int (nI k2)), (1, .int (nI k1)), (0, .ref o)]) hx hb dX4_turn_143 hl (by decide) rfl (fun ls hl => ?_)
            refine q_for (fun (j : Nat) (H : Heap) (locs : List Loc) (ls : Array Slot) => va_S A s.heap H locs ∧ lv_has ls 10 [(8, .int (nI j)), (6, .int (sumO (U k1) (i + 1))), (7, .int (nI i)), (5, .ref b1), (4, .ref (vv k1)), (3, .int (nI k4)), (2, .int (nI k2)), (1, .int (nI k1)), (0, .ref o)] ∧ pAt D H b1 (eN (T 1) 201 (upd (rowP (fun g => trW (U k1) k2 k4 g 201) i) i (trW (U k1) k2 k4 i j))) ∧ ∀ z : Nat, z < Hw.size → H[z]? = Hw[z]?) (N := 201) 0 (by omega) ?_ ?_ ?_
            · skip
              have e3 : (eN (T 1) 201 (upd (rowP (fun g => trW (U k1) k2 k4 g 201) i) i (iniV (U k1) k2 i))) = (eN (T 1) 201 (upd (rowP (fun g => trW (U k1) k2 k4 g 201) i) i (trW (U k1) k2 k4 i 0))) := by rfl
              exact ⟨hS, lv_sub hl [0, 1, 2, 3, 4, 5, 6, 7, 8] rfl, (by rw [← e3]; exact nb1), (by exact hwk)⟩
            · skip
              intro j H locs ls hi9_j hin9 hnext_j
              obtain ⟨hS, hl, nb1, hwk⟩ := hin9
              refine lv_iload hx hb dX4_turn_145 (lv_at hl 0 rfl) ?_
              refine lv_sipush (v := nI 200) hx hb dX4_turn_147 (by decide) ?_
              refine lv_icmp_gt (tgt := 273) hx hb dX4_turn_150 (by decide) (fun c150 => ?_) (fun c150 => ?_)
              · skip
                have c150 : 200 < j := (nc_lt (a := 200) (b := j) (by omega) (by omega)).mp c150
                omega
              · skip
                have c150 : ¬ (200 < j) := fun q9 => c150 ((nc_lt (a := 200) (b := j) (by omega) (by omega)).mpr q9)
                refine W.join (g2 := F0 m 215 ls [.int (nI (snN k2 k4 i j))]) ?_ (fun kk => ?_)
                · skip
                  refine lv_istore (lv' := [(9, .int (nI (snN k2 k4 i j))), (8, .int (nI j)), (6, .int (sumO (U k1) (i + 1))), (7, .int (nI i)), (5, .ref b1), (4, .ref (vv k1)), (3, .int (nI k4)), (2, .int (nI k2)), (1, .int (nI k1)), (0, .ref o)]) hx hb dX4_turn_215 hl (by decide) rfl (fun ls hl => ?_)
                  have hsn9 := snN_le k2 k4 i j
                  refine lv_iload hx hb dX4_turn_217 (lv_at hl 0 rfl) ?_
                  refine lv_if_eq (tgt := 267) hx hb dX4_turn_219 (by decide) (fun c219 => ?_) (fun c219 => ?_)
                  · skip
                    have c219 : snN k2 k4 i j = 0 := (nc_eq (a := snN k2 k4 i j) (b := 0) (by omega) (by omega)).mp c219
                    refine lv_iinc (v := nI (j + 1)) (lv' := [(8, .int (nI (j + 1))), (9, .int (nI (snN k2 k4 i j))), (6, .int (sumO (U k1) (i + 1))), (7, .int (nI i)), (5, .ref b1), (4, .ref (vv k1)), (3, .int (nI k4)), (2, .int (nI k2)), (1, .int (nI k1)), (0, .ref o)]) hx hb dX4_turn_267 hl (k := 1) rfl (inc_1 _) (by decide) rfl (fun ls hl => ?_)
                    refine lv_goto (tgt := 145) hx hb dX4_turn_270 (by decide) ?_
                    have e4 : (eN (T 1) 201 (upd (rowP (fun g => trW (U k1) k2 k4 g 201) i) i (trW (U k1) k2 k4 i j))) = (eN (T 1) 201 (upd (rowP (fun g => trW (U k1) k2 k4 g 201) i) i (trW (U k1) k2 k4 i (j + 1)))) := by first | (rw [tr_s0 c219]; done) | (rw [upd_upd, tr_6y c219 c225 c238]; done) | (rw [tr_6n c225 c238]; done) | (rw [upd_upd, tr_y c219 c225 c254]; done) | (rw [tr_n c225 c254]; done)
                    exact hnext_j _ _ _ ⟨hS, lv_sub hl [0, 2, 3, 4, 5, 6, 7, 8, 9] rfl, (by rw [← e4]; exact nb1), (by exact hwk)⟩
                  · skip
                    have c219 : ¬ (snN k2 k4 i j = 0) := fun q9 => c219 ((nc_eq (a := snN k2 k4 i j) (b := 0) (by omega) (by omega)).mpr q9)
                    refine lv_iload_n hx hb dX4_turn_222 rfl (lv_at hl 7 rfl) ?_
                    refine lv_bipush (v := nI 6) hx hb dX4_turn_223 (by decide) ?_
                    refine lv_icmp_ne (tgt := 244) hx hb dX4_turn_225 (by decide) (fun c225 => ?_) (fun c225 => ?_)
                    · skip
                      have c225 : ¬ (k2 = 6) := fun q9 => c225 ((nc_eq (a := k2) (b := 6) (by omega) (by omega)).mpr q9)
                      refine lv_aload hx hb dX4_turn_244 (lv_at hl 5 rfl) ?_
                      refine lv_iload hx hb dX4_turn_246 (lv_at hl 1 rfl) ?_
                      refine q_iald hx hb hK ((hw.u k1 (by omega)).2.kept (hwk _ (hw.u k1 (by omega)).2.lt)) j (rfl) (by omega) (by decide) dX4_turn_248 ?_
                      refine lv_aload hx hb dX4_turn_249 (lv_at hl 4 rfl) ?_
                      refine lv_iload hx hb dX4_turn_251 (lv_at hl 3 rfl) ?_
                      refine q_iald hx hb hK nb1 i (rfl) (by omega) (by decide) dX4_turn_253 ?_
                      rw [pk_us]
                      refine lv_icmp_le (tgt := 267) hx hb dX4_turn_254 (by decide) (fun c254 => ?_) (fun c254 => ?_)
                      · skip
                        refine lv_iinc (v := nI (j + 1)) (lv' := [(8, .int (nI (j + 1))), (9, .int (nI (snN k2 k4 i j))), (6, .int (sumO (U k1) (i + 1))), (7, .int (nI i)), (5, .ref b1), (4, .ref (vv k1)), (3, .int (nI k4)), (2, .int (nI k2)), (1, .int (nI k1)), (0, .ref o)]) hx hb dX4_turn_267 hl (k := 1) rfl (inc_1 _) (by decide) rfl (fun ls hl => ?_)
                        refine lv_goto (tgt := 145) hx hb dX4_turn_270 (by decide) ?_
                        have e5 : (eN (T 1) 201 (upd (rowP (fun g => trW (U k1) k2 k4 g 201) i) i (trW (U k1) k2 k4 i j))) = (eN (T 1) 201 (upd (rowP (fun g => trW (U k1) k2 k4 g 201) i) i (trW (U k1) k2 k4 i (j + 1)))) := by first | (rw [tr_s0 c219]; done) | (rw [upd_upd, tr_6y c219 c225 c238]; done) | (rw [tr_6n c225 c238]; done) | (rw [upd_upd, tr_y c219 c225 c254]; done) | (rw [tr_n c225 c254]; done)
                        exact hnext_j _ _ _ ⟨hS, lv_sub hl [0, 2, 3, 4, 5, 6, 7, 8, 9] rfl, (by rw [← e5]; exact nb1), (by exact hwk)⟩
                      · skip
                        refine lv_aload hx hb dX4_turn_257 (lv_at hl 4 rfl) ?_
                        refine lv_iload hx hb dX4_turn_259 (lv_at hl 3 rfl) ?_
                        refine lv_aload hx hb dX4_turn_261 (lv_at hl 5 rfl) ?_
                        refine lv_iload hx hb dX4_turn_263 (lv_at hl 1 rfl) ?_
                        refine q_iald hx hb hK ((hw.u k1 (by omega)).2.kept (hwk _ (hw.u k1 (by omega)).2.lt)) j (rfl) (by omega) (by decide) dX4_turn_265 ?_
                        refine q_iast hx hb hK nb1 i (rfl) (by omega) (by decide) hS (hA _ (by omega)) dX4_turn_266 (fun H1 locs1 hw9 hz oq hS => ?_)
                        have nb1 := hw9
                        replace hwk := fun (z : Nat) (hz : z < Hw.size) => (oq z (by omega)).trans (hwk z hz)
                        refine lv_iinc (v := nI (j + 1)) (lv' := [(8, .int (nI (j + 1))), (9, .int (nI (snN k2 k4 i j))), (6, .int (sumO (U k1) (i + 1))), (7, .int (nI i)), (5, .ref b1), (4, .ref (vv k1)), (3, .int (nI k4)), (2, .int (nI k2)), (1, .int (nI k1)), (0, .ref o)]) hx hb dX4_turn_267 hl (k := 1) rfl (inc_1 _) (by decide) rfl (fun ls hl => ?_)
                        refine lv_goto (tgt := 145) hx hb dX4_turn_270 (by decide) ?_
                        have e6 : (eN (T 1) 201 (upd (upd (rowP (fun g => trW (U k1) k2 k4 g 201) i) i (trW (U k1) k2 k4 i j)) i ((U k1) j))) = (eN (T 1) 201 (upd (rowP (fun g => trW (U k1) k2 k4 g 201) i) i (trW (U k1) k2 k4 i (j + 1)))) := by first | (rw [tr_s0 c219]; done) | (rw [upd_upd, tr_6y c219 c225 c238]; done) | (rw [tr_6n c225 c238]; done) | (rw [upd_upd, tr_y c219 c225 c254]; done) | (rw [tr_n c225 c254]; done)
                        exact hnext_j _ _ _ ⟨hS, lv_sub hl [0, 2, 3, 4, 5, 6, 7, 8, 9] rfl, (by rw [← e6]; exact nb1), (by exact hwk)⟩
                    · skip
                      have c225 : k2 = 6 := (nc_eq (a := k2) (b := 6) (by omega) (by omega)).mp c225
                      refine lv_aload hx hb dX4_turn_228 (lv_at hl 5 rfl) ?_
                      refine lv_iload hx hb dX4_turn_230 (lv_at hl 1 rfl) ?_
                      refine q_iald hx hb hK ((hw.u k1 (by omega)).2.kept (hwk _ (hw.u k1 (by omega)).2.lt)) j (rfl) (by omega) (by decide) dX4_turn_232 ?_
                      refine lv_aload hx hb dX4_turn_233 (lv_at hl 4 rfl) ?_
                      refine lv_iload hx hb dX4_turn_235 (lv_at hl 3 rfl) ?_
                      refine q_iald hx hb hK nb1 i (rfl) (by omega) (by decide) dX4_turn_237 ?_
                      rw [pk_us]
                      refine lv_icmp_ge (tgt := 267) hx hb dX4_turn_238 (by decide) (fun c238 => ?_) (fun c238 => ?_)
                      · skip
                        refine lv_iinc (v := nI (j + 1)) (lv' := [(8, .int (nI (j + 1))), (9, .int (nI (snN k2 k4 i j))), (6, .int (sumO (U k1) (i + 1))), (7, .int (nI i)), (5, .ref b1), (4, .ref (vv k1)), (3, .int (nI k4)), (2, .int (nI k2)), (1, .int (nI k1)), (0, .ref o)]) hx hb dX4_turn_267 hl (k := 1) rfl (inc_1 _) (by decide) rfl (fun ls hl => ?_)
                        refine lv_goto (tgt := 145) hx hb dX4_turn_270 (by decide) ?_
                        have e7 : (eN (T 1) 201 (upd (rowP (fun g => trW (U k1) k2 k4 g 201) i) i (trW (U k1) k2 k4 i j))) = (eN (T 1) 201 (upd (rowP (fun g => trW (U k1) k2 k4 g 201) i) i (trW (U k1) k2 k4 i (j + 1)))) := by first | (rw [tr_s0 c219]; done) | (rw [upd_upd, tr_6y c219 c225 c238]; done) | (rw [tr_6n c225 c238]; done) | (rw [upd_upd, tr_y c219 c225 c254]; done) | (rw [tr_n c225 c254]; done)
                        exact hnext_j _ _ _ ⟨hS, lv_sub hl [0, 2, 3, 4, 5, 6, 7, 8, 9] rfl, (by rw [← e7]; exact nb1), (by exact hwk)⟩
                      · skip
                        refine lv_goto (tgt := 257) hx hb dX4_turn_241 (by decide) ?_
                        refine lv_aload hx hb dX4_turn_257 (lv_at hl 4 rfl) ?_
                        refine lv_iload hx hb dX4_turn_259 (lv_at hl 3 rfl) ?_
                        refine lv_aload hx hb dX4_turn_261 (lv_at hl 5 rfl) ?_
                        refine lv_iload hx hb dX4_turn_263 (lv_at hl 1 rfl) ?_
                        refine q_iald hx hb hK ((hw.u k1 (by omega)).2.kept (hwk _ (hw.u k1 (by omega)).2.lt)) j (rfl) (by omega) (by decide) dX4_turn_265 ?_
                        refine q_iast hx hb hK nb1 i (rfl) (by omega) (by decide) hS (hA _ (by omega)) dX4_turn_266 (fun H1 locs1 hw9 hz oq hS => ?_)
                        have nb1 := hw9
                        replace hwk := fun (z : Nat) (hz : z < Hw.size) => (oq z (by omega)).trans (hwk z hz)
                        refine lv_iinc (v := nI (j + 1)) (lv' := [(8, .int (nI (j + 1))), (9, .int (nI (snN k2 k4 i j))), (6, .int (sumO (U k1) (i + 1))), (7, .int (nI i)), (5, .ref b1), (4, .ref (vv k1)), (3, .int (nI k4)), (2, .int (nI k2)), (1, .int (nI k1)), (0, .ref o)]) hx hb dX4_turn_267 hl (k := 1) rfl (inc_1 _) (by decide) rfl (fun ls hl => ?_)
                        refine lv_goto (tgt := 145) hx hb dX4_turn_270 (by decide) ?_
                        have e8 : (eN (T 1) 201 (upd (upd (rowP (fun g => trW (U k1) k2 k4 g 201) i) i (trW (U k1) k2 k4 i j)) i ((U k1) j))) = (eN (T 1) 201 (upd (rowP (fun g => trW (U k1) k2 k4 g 201) i) i (trW (U k1) k2 k4 i (j + 1)))) := by first | (rw [tr_s0 c219]; done) | (rw [upd_upd, tr_6y c219 c225 c238]; done) | (rw [tr_6n c225 c238]; done) | (rw [upd_upd, tr_y c219 c225 c254]; done) | (rw [tr_n c225 c254]; done)
                        exact hnext_j _ _ _ ⟨hS, lv_sub hl [0, 2, 3, 4, 5, 6, 7, 8, 9] rfl, (by rw [← e8]; exact nb1), (by exact hwk)⟩
                · skip
                  refine lv_iload_n hx hb dX4_turn_153 rfl (lv_at hl 6 rfl) ?_
                  refine lv_iconst (v := nI 1) hx hb dX4_turn_154 (by decide) ?_
                  refine lv_icmp_ne (tgt := 173) hx hb dX4_turn_155 (by decide) (fun c155 => ?_) (fun c155 => ?_)
                  · skip
                    have c155 : ¬ (k2 = 1) := fun q9 => c155 ((nc_eq (a := k2) (b := 1) (by omega) (by omega)).mpr q9)
                    refine lv_iload_n hx hb dX4_turn_173 rfl (lv_at hl 6 rfl) ?_
                    refine lv_iconst (v := nI 2) hx hb dX4_turn_174 (by decide) ?_
                    refine lv_icmp_ne (tgt := 193) hx hb dX4_turn_175 (by decide) (fun c175 => ?_) (fun c175 => ?_)
                    · skip
                      have c175 : ¬ (k2 = 2) := fun q9 => c175 ((nc_eq (a := k2) (b := 2) (by omega) (by omega)).mpr q9)
                      refine lv_iload_n hx hb dX4_turn_193 rfl (lv_at hl 6 rfl) ?_
                      refine lv_iconst (v := nI 4) hx hb dX4_turn_194 (by decide) ?_
                      refine lv_icmp_le (tgt := 214) hx hb dX4_turn_195 (by decide) (fun c195 => ?_) (fun c195 => ?_)
                      · skip
                        have c195 : k2 ≤ 4 := (nc_le (a := k2) (b := 4) (by omega) (by omega)).mp c195
                        refine lv_iconst (v := nI 0) hx hb dX4_turn_214 (by decide) ?_
                        exact W.eq (congrArg (fun z9 => F0 m 215 ls [.int z9]) (show nI 0 = nI (snN k2 k4 i j) from by unfold snN snP; first | (rw [if_pos (by omega)]; done) | (rw [if_neg (by omega)]; done))) kk
                      · skip
                        have c195 : ¬ (k2 ≤ 4) := fun q9 => c195 ((nc_le (a := k2) (b := 4) (by omega) (by omega)).mpr q9)
                        refine lv_iload hx hb dX4_turn_198 (lv_at hl 0 rfl) ?_
                        refine lv_iload hx hb dX4_turn_200 (lv_at hl 2 rfl) ?_
                        refine lv_isub hx hb dX4_turn_202 ?_
                        refine va_mabs hx hb (hml.trans hl.1.symm) hown (hts (.methodLink RX4 136 Lib.Math.abs.name) (by decide +kernel)) (hts (.static Lib.Math.abs.name) (by decide +kernel)) (hts (.initialized "java/lang/Math") (by decide +kernel)) (hts (.code Lib.Math.abs.name Lib.Math.abs.code 1 (some .int)) (by decide +kernel)) (Nat.le_of_ble_eq_true rfl) (Nat.le_of_ble_eq_true rfl) (by first | omega | decide) (by first | omega | decide) dX4_turn_203 ?_
                        rw [abs_ij (by omega) (by omega)]
                        refine W.eq (g2 := F0 m 206 ls [.int (nI (j - i + (i - j)))]) rfl ?_
                        refine lv_iload_n hx hb dX4_turn_206 rfl (lv_at hl 5 rfl) ?_
                        refine lv_icmp_gt (tgt := 214) hx hb dX4_turn_207 (by decide) (fun c207 => ?_) (fun c207 => ?_)
                        · skip
                          have c207 : k4 < j - i + (i - j) := (nc_lt (a := k4) (b := j - i + (i - j)) (by omega) (by omega)).mp c207
                          refine lv_iconst (v := nI 0) hx hb dX4_turn_214 (by decide) ?_
                          exact W.eq (congrArg (fun z9 => F0 m 215 ls [.int z9]) (show nI 0 = nI (snN k2 k4 i j) from by unfold snN snP; first | (rw [if_pos (by omega)]; done) | (rw [if_neg (by omega)]; done))) kk
                        · skip
                          have c207 : ¬ (k4 < j - i + (i - j)) := fun q9 => c207 ((nc_lt (a := k4) (b := j - i + (i - j)) (by omega) (by omega)).mpr q9)
                          refine lv_iconst (v := nI 1) hx hb dX4_turn_210 (by decide) ?_
                          refine lv_goto (tgt := 215) hx hb dX4_turn_211 (by decide) ?_
                          exact W.eq (congrArg (fun z9 => F0 m 215 ls [.int z9]) (show nI 1 = nI (snN k2 k4 i j) from by unfold snN snP; first | (rw [if_pos (by omega)]; done) | (rw [if_neg (by omega)]; done))) kk
                    · skip
                      have c175 : k2 = 2 := (nc_eq (a := k2) (b := 2) (by omega) (by omega)).mp c175
                      refine lv_iload hx hb dX4_turn_178 (lv_at hl 0 rfl) ?_
                      refine lv_iload hx hb dX4_turn_180 (lv_at hl 2 rfl) ?_
                      refine lv_icmp_lt (tgt := 189) hx hb dX4_turn_182 (by decide) (fun c182 => ?_) (fun c182 => ?_)
                      · skip
                        have c182 : j < i := (nc_lt (a := j) (b := i) (by omega) (by omega)).mp c182
                        refine lv_iconst (v := nI 0) hx hb dX4_turn_189 (by decide) ?_
                        refine lv_goto (tgt := 215) hx hb dX4_turn_190 (by decide) ?_
                        exact W.eq (congrArg (fun z9 => F0 m 215 ls [.int z9]) (show nI 0 = nI (snN k2 k4 i j) from by unfold snN snP; first | (rw [if_pos (by omega)]; done) | (rw [if_neg (by omega)]; done))) kk
                      · skip
                        have c182 : ¬ (j < i) := fun q9 => c182 ((nc_lt (a := j) (b := i) (by omega) (by omega)).mpr q9)
                        refine lv_iconst (v := nI 1) hx hb dX4_turn_185 (by decide) ?_
                        refine lv_goto (tgt := 215) hx hb dX4_turn_186 (by decide) ?_
                        exact W.eq (congrArg (fun z9 => F0 m 215 ls [.int z9]) (show nI 1 = nI (snN k2 k4 i j) from by unfold snN snP; first | (rw [if_pos (by omega)]; done) | (rw [if_neg (by omega)]; done))) kk
                  · skip
                    have c155 : k2 = 1 := (nc_eq (a := k2) (b := 1) (by omega) (by omega)).mp c155
                    refine lv_iload hx hb dX4_turn_158 (lv_at hl 0 rfl) ?_
                    refine lv_iload hx hb dX4_turn_160 (lv_at hl 2 rfl) ?_
                    refine lv_icmp_gt (tgt := 169) hx hb dX4_turn_162 (by decide) (fun c162 => ?_) (fun c162 => ?_)
                    · skip
                      have c162 : i < j := (nc_lt (a := i) (b := j) (by omega) (by omega)).mp c162
                      refine lv_iconst (v := nI 0) hx hb dX4_turn_169 (by decide) ?_
                      refine lv_goto (tgt := 215) hx hb dX4_turn_170 (by decide) ?_
                      exact W.eq (congrArg (fun z9 => F0 m 215 ls [.int z9]) (show nI 0 = nI (snN k2 k4 i j) from by unfold snN snP; first | (rw [if_pos (by omega)]; done) | (rw [if_neg (by omega)]; done))) kk
                    · skip
                      have c162 : ¬ (i < j) := fun q9 => c162 ((nc_lt (a := i) (b := j) (by omega) (by omega)).mpr q9)
                      refine lv_iconst (v := nI 1) hx hb dX4_turn_165 (by decide) ?_
                      refine lv_goto (tgt := 215) hx hb dX4_turn_166 (by decide) ?_
                      exact W.eq (congrArg (fun z9 => F0 m 215 ls [.int z9]) (show nI 1 = nI (snN k2 k4 i j) from by unfold snN snP; first | (rw [if_pos (by omega)]; done) | (rw [if_neg (by omega)]; done))) kk
            · skip
              intro H locs ls hin9
              obtain ⟨hS, hl, nb1, hwk⟩ := hin9
              refine lv_iload hx hb dX4_turn_145 (lv_at hl 0 rfl) ?_
              refine lv_sipush (v := nI 200) hx hb dX4_turn_147 (by decide) ?_
              refine lv_icmp_gt (tgt := 273) hx hb dX4_turn_150 (by decide) (fun c150 => ?_) (fun c150 => ?_)
              · skip
                have c150 : 200 < 201 := (nc_lt (a := 200) (b := 201) (by omega) (by omega)).mp c150
                refine lv_iinc (v := nI (i + 1)) (lv' := [(7, .int (nI (i + 1))), (8, .int (nI 201)), (6, .int (sumO (U k1) (i + 1))), (5, .ref b1), (4, .ref (vv k1)), (3, .int (nI k4)), (2, .int (nI k2)), (1, .int (nI k1)), (0, .ref o)]) hx hb dX4_turn_273 hl (k := 2) rfl (inc_1 _) (by decide) rfl (fun ls hl => ?_)
                refine lv_goto (tgt := 59) hx hb dX4_turn_276 (by decide) ?_
                have e9 : (eN (T 1) 201 (upd (rowP (fun g => trW (U k1) k2 k4 g 201) i) i (trW (U k1) k2 k4 i 201))) = (eN (T 1) 201 (rowP (fun g => trW (U k1) k2 k4 g 201) (i + 1))) := by (rw [rowP_u rfl])
                exact hnext _ _ _ ⟨hS, lv_sub hl [0, 2, 3, 4, 5, 6, 7, 8] rfl, (by rw [← e9]; exact nb1), (by exact hwk)⟩
              · skip
                have c150 : ¬ (200 < 201) := fun q9 => c150 ((nc_lt (a := 200) (b := 201) (by omega) (by omega)).mpr q9)
                omega
          · skip
            refine lv_iload_n hx hb dX4_turn_93 rfl (lv_at hl 5 rfl) ?_
            refine lv_if_ne (tgt := 106) hx hb dX4_turn_94 (by decide) (fun c94 => ?_) (fun c94 => ?_)
            · skip
              have c94 : ¬ (k2 = 0) := fun q9 => c94 ((nc_eq (a := k2) (b := 0) (by omega) (by omega)).mpr q9)
              refine lv_iload_n hx hb dX4_turn_106 rfl (lv_at hl 5 rfl) ?_
              refine lv_iconst (v := nI 3) hx hb dX4_turn_107 (by decide) ?_
              refine lv_icmp_ne (tgt := 119) hx hb dX4_turn_108 (by decide) (fun c108 => ?_) (fun c108 => ?_)
              · skip
                have c108 : ¬ (k2 = 3) := fun q9 => c108 ((nc_eq (a := k2) (b := 3) (by omega) (by omega)).mpr q9)
                refine lv_iload_n hx hb dX4_turn_119 rfl (lv_at hl 5 rfl) ?_
                refine lv_iconst (v := nI 4) hx hb dX4_turn_120 (by decide) ?_
                refine lv_icmp_ne (tgt := 136) hx hb dX4_turn_121 (by decide) (fun c121 => ?_) (fun c121 => ?_)
                · skip
                  have c121 : ¬ (k2 = 4) := fun q9 => c121 ((nc_eq (a := k2) (b := 4) (by omega) (by omega)).mpr q9)
                  refine lv_aload hx hb dX4_turn_136 (lv_at hl 3 rfl) ?_
                  refine lv_iload hx hb dX4_turn_138 (lv_at hl 1 rfl) ?_
                  refine q_iald hx hb hK ((hw.u k1 (by omega)).2.kept (hwk _ (hw.u k1 (by omega)).2.lt)) i (rfl) (by omega) (by decide) dX4_turn_140 ?_
                  exact W.eq (congrArg (fun z9 => F0 m 141 ls [.int z9, .int (nI i), .ref b1]) (show (U k1) i = iniV (U k1) k2 i from by first | exact (ini_0 c94).symm | exact (ini_3 c108).symm | exact (ini_4 c121).symm | exact (ini_x c94 c108 c121).symm)) kk
                · skip
                  have c121 : k2 = 4 := (nc_eq (a := k2) (b := 4) (by omega) (by omega)).mp c121
                  refine lv_aload hx hb dX4_turn_124 (lv_at hl 3 rfl) ?_
                  refine lv_sipush (v := nI 200) hx hb dX4_turn_126 (by decide) ?_
                  refine lv_iload hx hb dX4_turn_129 (lv_at hl 1 rfl) ?_
                  refine lv_isub hx hb dX4_turn_131 ?_
                  rw [pk_sub (a := 200) (b := i) (by omega)]
                  refine q_iald hx hb hK ((hw.u k1 (by omega)).2.kept (hwk _ (hw.u k1 (by omega)).2.lt)) (200 - i) (rfl) (by omega) (by decide) dX4_turn_132 ?_
                  refine lv_goto (tgt := 141) hx hb dX4_turn_133 (by decide) ?_
                  exact W.eq (congrArg (fun z9 => F0 m 141 ls [.int z9, .int (nI i), .ref b1]) (show (U k1) (200 - i) = iniV (U k1) k2 i from by first | exact (ini_0 c94).symm | exact (ini_3 c108).symm | exact (ini_4 c121).symm | exact (ini_x c94 c108 c121).symm)) kk
              · skip
                have c108 : k2 = 3 := (nc_eq (a := k2) (b := 3) (by omega) (by omega)).mp c108
                refine lv_iload hx hb dX4_turn_111 (lv_at hl 0 rfl) ?_
                refine vp_callSi (va_runS (As := [.int (sumO (U k1) (i + 1))]) (rest := [.int (nI i), .ref b1]) ⟨hx, hb, hml, hown, hts⟩ (conX4_kept l D T (sumO (U k1) (i + 1))) (va_cwS 1 hts gX4_turn_X4_kept rfl rfl rfl (by decide +kernel) ⟨Nat.le_of_ble_eq_true rfl, Nat.le_of_ble_eq_true rfl⟩) (preS hK trivial) rfl rfl hl.1 rfl (lv_room (Nat.le_of_ble_eq_true rfl)) dX4_turn_113 ⟨by show _ ≤ 1; omega, by show _ ≤ 201; omega⟩).run (fun r10 hr10 => ?_)
                rw [hr10]
                refine lv_goto (tgt := 141) hx hb dX4_turn_116 (by decide) ?_
                exact W.eq (congrArg (fun z9 => F0 m 141 ls [.int z9, .int (nI i), .ref b1]) (show kepS (sumO (U k1) (i + 1)) = iniV (U k1) k2 i from by first | exact (ini_0 c94).symm | exact (ini_3 c108).symm | exact (ini_4 c121).symm | exact (ini_x c94 c108 c121).symm)) kk
            · skip
              have c94 : k2 = 0 := (nc_eq (a := k2) (b := 0) (by omega) (by omega)).mp c94
              refine lv_aload hx hb dX4_turn_97 (lv_at hl 3 rfl) ?_
              refine lv_iload hx hb dX4_turn_99 (lv_at hl 1 rfl) ?_
              refine q_iald hx hb hK ((hw.u k1 (by omega)).2.kept (hwk _ (hw.u k1 (by omega)).2.lt)) i (rfl) (by omega) (by decide) dX4_turn_101 ?_
              refine lv_ineg hx hb dX4_turn_102 ?_
              refine lv_goto (tgt := 141) hx hb dX4_turn_103 (by decide) ?_
              exact W.eq (congrArg (fun z9 => F0 m 141 ls [.int z9, .int (nI i), .ref b1]) (show -((U k1) i) = iniV (U k1) k2 i from by first | exact (ini_0 c94).symm | exact (ini_3 c108).symm | exact (ini_4 c121).symm | exact (ini_x c94 c108 c121).symm)) kk
        · skip
          refine lv_iload hx hb dX4_turn_67 (lv_at hl 1 rfl) ?_
          refine lv_iload hx hb dX4_turn_69 (lv_at hl 0 rfl) ?_
          refine lv_iconst (v := nI 2) hx hb dX4_turn_71 (by decide) ?_
          refine lv_irem hx hb dX4_turn_72 (by decide) ?_
          rw [pk_rem (a := i) (d := 2) (by omega) (by omega) (by omega)]
          refine lv_iconst (v := nI 1) hx hb dX4_turn_73 (by decide) ?_
          refine lv_icmp_ne (tgt := 85) hx hb dX4_turn_74 (by decide) (fun c74 => ?_) (fun c74 => ?_)
          · skip
            have c74 : ¬ (i % 2 = 1) := fun q9 => c74 ((nc_eq (a := i % 2) (b := 1) (by omega) (by omega)).mpr q9)
            refine lv_iconst (v := nI 0) hx hb dX4_turn_85 (by decide) ?_
            refine lv_iadd hx hb dX4_turn_86 ?_
            exact W.eq (congrArg (fun z9 => F0 m 87 ls [.int z9]) (show (sumO (U k1) i) + (nI 0) = sumO (U k1) (i + 1) from by first | exact sumO_y c74 | exact sumO_n c74)) kk
          · skip
            have c74 : i % 2 = 1 := (nc_eq (a := i % 2) (b := 1) (by omega) (by omega)).mp c74
            refine lv_aload hx hb dX4_turn_77 (lv_at hl 3 rfl) ?_
            refine lv_iload hx hb dX4_turn_79 (lv_at hl 0 rfl) ?_
            refine q_iald hx hb hK ((hw.u k1 (by omega)).2.kept (hwk _ (hw.u k1 (by omega)).2.lt)) i (rfl) (by omega) (by decide) dX4_turn_81 ?_
            refine lv_goto (tgt := 86) hx hb dX4_turn_82 (by decide) ?_
            refine lv_iadd hx hb dX4_turn_86 ?_
            exact W.eq (congrArg (fun z9 => F0 m 87 ls [.int z9]) (show (sumO (U k1) i) + ((U k1) i) = sumO (U k1) (i + 1) from by first | exact sumO_y c74 | exact sumO_n c74)) kk
    · skip
      intro H locs ls hin9
      obtain ⟨hS, hl, nb1, hwk⟩ := hin9
      refine lv_iload hx hb dX4_turn_59 (lv_at hl 0 rfl) ?_
      refine lv_sipush (v := nI 200) hx hb dX4_turn_61 (by decide) ?_
      refine lv_icmp_gt (tgt := 279) hx hb dX4_turn_64 (by decide) (fun c64 => ?_) (fun c64 => ?_)
      · skip
        have c64 : 200 < 201 := (nc_lt (a := 200) (b := 201) (by omega) (by omega)).mp c64
        refine lv_aload_n hx hb dX4_turn_279 rfl (lv_at hl 7 rfl) ?_
        refine q_get (v := .ref (o + 47)) hx hb hts hin4 hown hK (hw.ob.kept (hwk _ hw.ob.lt)) rfl 4 (by decide) (hts (.fieldLink RX4 23 "PuddingstoneLineLaw$Stones" "values" "[[I") (by decide +kernel)) (fun _ h9 => h9) rfl dX4_turn_280 ?_
        refine lv_iload_n hx hb dX4_turn_283 rfl (lv_at hl 6 rfl) ?_
        refine lv_aload hx hb dX4_turn_284 (lv_at hl 2 rfl) ?_
        refine q_aasta hx hb hK 5 1 (ty := .int) rfl rfl hK.2.1.2.2.2.1 (hw.vs.kept (hwk _ hw.vs.lt)) nb1 k1 rfl (by omega) (by decide) (hK.1.2 1 _ rfl).2 hS (hA _ (by omega)) dX4_turn_286 (fun H1 locs1 hw9 hz oq hS => ?_)
        replace hw := (hw.old hwk).setV (k := k1) (m := b1) (u := (rowP (fun g => trW (U k1) k2 k4 g 201) 201)) (by omega) (fun j hj => by have h8 := (hw.u j hj).2.lt; omega) nb1 hw9 oq
        replace nb1 := nb1.ne oq (by omega)
        refine lv_aload_n hx hb dX4_turn_287 rfl (lv_at hl 7 rfl) ?_
        refine q_get (v := .ref (ad 0)) hx hb hts hin4 hown hK hw.ob rfl 0 (by decide) (hts (.fieldLink RX4 10 "PuddingstoneLineLaw$Stones" "m" "LPuddingstoneLine;") (by decide +kernel)) (fun _ h9 => h9) rfl dX4_turn_288 ?_
        refine lv_iload_n hx hb dX4_turn_291 rfl (lv_at hl 6 rfl) ?_
        refine lv_iload_n hx hb dX4_turn_292 rfl (lv_at hl 5 rfl) ?_
        refine lv_iload_n hx hb dX4_turn_293 rfl (lv_at hl 4 rfl) ?_
        refine va_calli (va_runV (As := [.int (nI k1), .int (nI k2), .int (nI k4)]) (rest := []) ⟨hx, hb, hml, hown, hts⟩ (conX3_turn l D T ad F V sr C k1 k2 k4 (nI k4) (by omega) (by omega) (fun _ => ⟨rfl, by omega⟩)) (cwV 3 hts gX4_turn_X3_turn rfl rfl rfl (by decide +kernel) ⟨Nat.le_of_ble_eq_true rfl, Nat.le_of_ble_eq_true rfl⟩) (preV hK hw.pl.o rfl hw.pl) rfl rfl hl.1 rfl (lv_room (Nat.le_of_ble_eq_true rfl)) dX4_turn_294 ⟨by show _ ≤ 1; omega, by show _ ≤ 201; omega⟩) hS (fun q _ h9 => (by obtain ⟨i9, h8, rfl⟩ := h9; exact hA _ (by have := hw.1 i9 h8; omega))) (fun q h9 => (by obtain ⟨i9, h8, rfl⟩ := h9; exact hA _ (by have := hw.1 i9 h8; omega))) (fun r u t H1 locs1 ht hvm hw9 hB hz1 hk1 hS => ?_)
        try dsimp only at hB
        rw [ht] at hB
        rw [hw9]
        replace nb1 := nb1.kept (hk1 _ nb1.lt (fun ⟨i9, h8, h7⟩ => by have := hw.1 i9 h8; omega))
        replace hw := hw.setP hB (fun q h1 h2 => hk1 q h1 h2)
        refine lv_aload hx hb dX4_turn_297 (lv_at hl 2 rfl) ?_
        refine vp_callSi (va_runS (As := [.ref b1]) (rest := [.int (stepsV (trnV (va_up V 5 (copyV (V 5) (V k1) 201)) k1 k2 k4) 200)]) ⟨hx, hb, hml, hown, hts⟩ (conX4_steps l D T b1 (rowP (fun g => trW (U k1) k2 k4 g 201) 201)) (va_cwS 1 hts gX4_turn_X4_steps rfl rfl rfl (by decide +kernel) ⟨Nat.le_of_ble_eq_true rfl, Nat.le_of_ble_eq_true rfl⟩) (preS hK nb1) rfl rfl hl.1 rfl (lv_room (Nat.le_of_ble_eq_true rfl)) dX4_turn_299 ⟨by show _ ≤ 1; omega, by show _ ≤ 201; omega⟩).run (fun r11 hr11 => ?_)
        rw [hr11]
        have hfn := trn_fn (V := V) (u := U k1) (k := k1) (how := k2) (n := k4) (by omega) (by omega) (by omega) (hinv.2.2 k1 · (by omega))
        have hans := steps_eq fun j hj => (hfn j hj).1.symm
        refine lv_icmp_ne (tgt := 309) hx hb dX4_turn_302 (by decide) (fun c302 => ?_) (fun c302 => ?_)
        · skip
          exact absurd hans c302
        · skip
          refine lv_iconst (v := nI 1) hx hb dX4_turn_305 (by decide) ?_
          refine lv_goto (tgt := 310) hx hb dX4_turn_306 (by decide) ?_
          exact W.zret (v := nI 1) hx hb hr (rfl) (fun t ht _ => ⟨⟨nI 1, (), rfl, by rfl, by dsimp only; rw [ht]; exact ⟨_, _, _, _, _, _, _, _, _, by omega, (by have h8 := hS.1; omega), hw, hinv.fun (k := k1) up_nf5 (by rw [va_up_s]; exact hfn)⟩⟩, hS.F ht⟩) hS.2.2 dX4_turn_310
      · skip
        have c64 : ¬ (200 < 201) := fun q9 => c64 ((nc_lt (a := 200) (b := 201) (by omega) (by omega)).mpr q9)
        omega
  · skip
    have c18 : k3 = 0 := (nc_eq (a := k3) (b := 0) (by omega) (by omega)).mp c18
    refine lv_aload_n hx hb dX4_turn_21 rfl (lv_at hl 2 rfl) ?_
    refine lv_sipush (v := nI 201) hx hb dX4_turn_22 (by decide) ?_
    refine va_calli (va_runV (As := [.int (nI 201)]) (rest := []) ⟨hx, hb, hml, hown, hts⟩ (conX4_draw l D T ad o sc N sf (dr + 1 + 1 + 1) F V sr C L U la vv (by omega) (by omega) 201 (by omega) (by omega)) (cwV 1 hts gX4_turn_X4_draw rfl rfl rfl (by decide +kernel) ⟨Nat.le_of_ble_eq_true rfl, Nat.le_of_ble_eq_true rfl⟩) (preV hK hw.ob rfl hw) rfl rfl hl.1 rfl (lv_room (Nat.le_of_ble_eq_true rfl)) dX4_turn_25 ⟨Nat.le_of_ble_eq_true rfl, Nat.le_of_ble_eq_true rfl⟩) hS (fun q _ h9 => (by have h8 : q = o := h9; rw [h8]; exact hA_o)) (fun q h9 => (by have h8 : q = o := h9; rw [h8]; exact hA_o)) (fun r u t H1 locs1 ht hvm hw9 hB hz1 hk1 hS => ?_)
    try dsimp only at hB
    rw [ht] at hB
    obtain ⟨k4, hk4, rfl⟩ := hw9
    replace hw := hB
    refine lv_goto (tgt := 37) hx hb dX4_turn_28 (by decide) ?_
    refine lv_istore_n (lv' := [(3, .int (nI k4)), (2, .int (nI k2)), (1, .int (nI k1)), (0, .ref o)]) hx hb dX4_turn_37 rfl hl (by decide) rfl (fun ls hl => ?_)
    refine lv_aload_n hx hb dX4_turn_38 rfl (lv_at hl 3 rfl) ?_
    refine q_get (v := .ref (o + 47)) hx hb hts hin4 hown hK hw.ob rfl 4 (by decide) (hts (.fieldLink RX4 23 "PuddingstoneLineLaw$Stones" "values" "[[I") (by decide +kernel)) (fun _ h9 => h9) rfl dX4_turn_39 ?_
    refine lv_iload_n hx hb dX4_turn_42 rfl (lv_at hl 2 rfl) ?_
    refine q_aald hx hb hK 5 rfl rfl hw.vs k1 (rfl) (by omega) (by decide) (b := vv k1) rfl dX4_turn_43 ?_
    refine lv_astore (lv' := [(4, .ref (vv k1)), (3, .int (nI k4)), (2, .int (nI k2)), (1, .int (nI k1)), (0, .ref o)]) hx hb dX4_turn_44 hl (by decide) rfl (fun ls hl => ?_)
    refine lv_sipush (v := nI 201) hx hb dX4_turn_46 (by decide) ?_
    obtain ⟨Hw, hHw⟩ : ∃ z : Heap, z = H1 := ⟨_, rfl⟩
    obtain ⟨b1, hb1⟩ : ∃ z : Nat, z = H1.size := ⟨_, rfl⟩
    have ln_b1 : s.heap.size ≤ b1 := by have h8 := hS.1; omega
    have lw_b1 : Hw.size ≤ b1 := by rw [hHw]; omega
    refine q_newi hx hb (hts (.arrayClass .int) (by decide +kernel)) hK 201 rfl (by decide) (by show _ ≤ 1; omega) (by show _ ≤ 201; omega) hS dX4_turn_49 (fun H1 hw9 z1 o1 hS => ?_)
    rw [← hb1] at hw9 ⊢
    have nb1 := hw9
    have sb1 : H1.size = b1 + 1 := by omega
    rw [← hHw] at hw
    have hwk : ∀ z : Nat, z < Hw.size → H1[z]? = Hw[z]? := by rw [hHw]; exact fun z hz => o1 z (by omega)
    refine lv_astore (lv' := [(5, .ref b1), (4, .ref (vv k1)), (3, .int (nI k4)), (2, .int (nI k2)), (1, .int (nI k1)), (0, .ref o)]) hx hb dX4_turn_51 hl (by decide) rfl (fun ls hl => ?_)
    refine lv_iconst (v := nI 0) hx hb dX4_turn_53 (by decide) ?_
    refine lv_istore (lv' := [(6, .int (nI 0)), (5, .ref b1), (4, .ref (vv k1)), (3, .int (nI k4)), (2, .int (nI k2)), (1, .int (nI k1)), (0, .ref o)]) hx hb dX4_turn_54 hl (by decide) rfl (fun ls hl => ?_)
    refine lv_iconst (v := nI 0) hx hb dX4_turn_56 (by decide) ?_
    refine lv_istore (lv' := [(7, .int (nI 0)), (6, .int (nI 0)), (5, .ref b1), (4, .ref (vv k1)), (3, .int (nI k4)), (2, .int (nI k2)), (1, .int (nI k1)), (0, .ref o)]) hx hb dX4_turn_57 hl (by decide) rfl (fun ls hl => ?_)
    refine q_for (fun (i : Nat) (H : Heap) (locs : List Loc) (ls : Array Slot) => va_S A s.heap H locs ∧ lv_has ls 10 [(7, .int (nI i)), (6, .int (sumO (U k1) i)), (5, .ref b1), (4, .ref (vv k1)), (3, .int (nI k4)), (2, .int (nI k2)), (1, .int (nI k1)), (0, .ref o)] ∧ pAt D H b1 (eN (T 1) 201 (rowP (fun g => trW (U k1) k2 k4 g 201) i)) ∧ ∀ z : Nat, z < Hw.size → H[z]? = Hw[z]?) (N := 201) 0 (by omega) ?_ ?_ ?_
    · skip
      have e12 : nI 0 = sumO (U k1) 0 := by rfl
      have e13 : (eN (T 1) 201 zr0) = (eN (T 1) 201 (rowP (fun g => trW (U k1) k2 k4 g 201) 0)) := by (rw [rowP_0])
      exact ⟨hS, lv_sub (lv_ex hl 1 rfl (congrArg Value.int e12)) [0, 1, 2, 3, 4, 5, 6, 7] rfl, (by rw [← e13]; exact nb1), (by exact hwk)⟩
    · skip
      intro i H locs ls hi9 hin9 hnext
      obtain ⟨hS, hl, nb1, hwk⟩ := hin9
      refine lv_iload hx hb dX4_turn_59 (lv_at hl 0 rfl) ?_
      refine lv_sipush (v := nI 200) hx hb dX4_turn_61 (by decide) ?_
      refine lv_icmp_gt (tgt := 279) hx hb dX4_turn_64 (by decide) (fun c64 => ?_) (fun c64 => ?_)
      · skip
        have c64 : 200 < i := (nc_lt (a := 200) (b := i) (by omega) (by omega)).mp c64
        omega
      · skip
        have c64 : ¬ (200 < i) := fun q9 => c64 ((nc_lt (a := 200) (b := i) (by omega) (by omega)).mpr q9)
        refine W.join (g2 := F0 m 87 ls [.int (sumO (U k1) (i + 1))]) ?_ (fun kk => ?_)
        · skip
          refine lv_istore (lv' := [(6, .int (sumO (U k1) (i + 1))), (7, .int (nI i)), (5, .ref b1), (4, .ref (vv k1)), (3, .int (nI k4)), (2, .int (nI k2)), (1, .int (nI k1)), (0, .ref o)]) hx hb dX4_turn_87 hl (by decide) rfl (fun ls hl => ?_)
          refine lv_aload hx hb dX4_turn_89 (lv_at hl 2 rfl) ?_
          refine lv_iload hx hb dX4_turn_91 (lv_at hl 1 rfl) ?_
          refine W.join (g2 := F0 m 141 ls [.int (iniV (U k1) k2 i), .int (nI i), .ref b1]) ?_ (fun kk => ?_)
          · skip
            refine q_iast hx hb hK nb1 i (rfl) (by omega) (by decide) hS (hA _ (by omega)) dX4_turn_141 (fun H1 locs1 hw9 hz oq hS => ?_)
            have nb1 := hw9
            replace hwk := fun (z : Nat) (hz : z < Hw.size) => (oq z (by omega)).trans (hwk z hz)
            refine lv_iconst (v := nI 0) hx hb dX4_turn_142 (by decide) ?_
            refine lv_istore (lv' := [(8, .int (nI 0)), (6, .int (sumO (U k1) (i + 1))), (7, .int (nI i)), (5, .ref b1), (4, .ref (vv k1)), (3, .int (nI k4)), (2, .int (nI k2)), (1, .int (nI k1)), (0, .ref o)]) hx hb dX4_turn_143 hl (by decide) rfl (fun ls hl => ?_)
            refine q_for (fun (j : Nat) (H : Heap) (locs : List Loc) (ls : Array Slot) => va_S A s.heap H locs ∧ lv_has ls 10 [(8, .int (nI j)), (6, .int (sumO (U k1) (i + 1))), (7, .int (nI i)), (5, .ref b1), (4, .ref (vv k1)), (3, .int (nI k4)), (2, .int (nI k2)), (1, .int (nI k1)), (0, .ref o)] ∧ pAt D H b1 (eN (T 1) 201 (upd (rowP (fun g => trW (U k1) k2 k4 g 201) i) i (trW (U k1) k2 k4 i j))) ∧ ∀ z : Nat, z < Hw.size → H[z]? = Hw[z]?) (N := 201) 0 (by omega) ?_ ?_ ?_
            · skip
              have e14 : (eN (T 1) 201 (upd (rowP (fun g => trW (U k1) k2 k4 g 201) i) i (iniV (U k1) k2 i))) = (eN (T 1) 201 (upd (rowP (fun g => trW (U k1) k2 k4 g 201) i) i (trW (U k1) k2 k4 i 0))) := by rfl
              exact ⟨hS, lv_sub hl [0, 1, 2, 3, 4, 5, 6, 7, 8] rfl, (by rw [← e14]; exact nb1), (by exact hwk)⟩
            · skip
              intro j H locs ls hi9_j hin9 hnext_j
              obtain ⟨hS, hl, nb1, hwk⟩ := hin9
              refine lv_iload hx hb dX4_turn_145 (lv_at hl 0 rfl) ?_
              refine lv_sipush (v := nI 200) hx hb dX4_turn_147 (by decide) ?_
              refine lv_icmp_gt (tgt := 273) hx hb dX4_turn_150 (by decide) (fun c150 => ?_) (fun c150 => ?_)
              · skip
                have c150 : 200 < j := (nc_lt (a := 200) (b := j) (by omega) (by omega)).mp c150
                omega
              · skip
                have c150 : ¬ (200 < j) := fun q9 => c150 ((nc_lt (a := 200) (b := j) (by omega) (by omega)).mpr q9)
                refine W.join (g2 := F0 m 215 ls [.int (nI (snN k2 k4 i j))]) ?_ (fun kk => ?_)
                · skip
                  refine lv_istore (lv' := [(9, .int (nI (snN k2 k4 i j))), (8, .int (nI j)), (6, .int (sumO (U k1) (i + 1))), (7, .int (nI i)), (5, .ref b1), (4, .ref (vv k1)), (3, .int (nI k4)), (2, .int (nI k2)), (1, .int (nI k1)), (0, .ref o)]) hx hb dX4_turn_215 hl (by decide) rfl (fun ls hl => ?_)
                  have hsn9 := snN_le k2 k4 i j
                  refine lv_iload hx hb dX4_turn_217 (lv_at hl 0 rfl) ?_
                  refine lv_if_eq (tgt := 267) hx hb dX4_turn_219 (by decide) (fun c219 => ?_) (fun c219 => ?_)
                  · skip
                    have c219 : snN k2 k4 i j = 0 := (nc_eq (a := snN k2 k4 i j) (b := 0) (by omega) (by omega)).mp c219
                    refine lv_iinc (v := nI (j + 1)) (lv' := [(8, .int (nI (j + 1))), (9, .int (nI (snN k2 k4 i j))), (6, .int (sumO (U k1) (i + 1))), (7, .int (nI i)), (5, .ref b1), (4, .ref (vv k1)), (3, .int (nI k4)), (2, .int (nI k2)), (1, .int (nI k1)), (0, .ref o)]) hx hb dX4_turn_267 hl (k := 1) rfl (inc_1 _) (by decide) rfl (fun ls hl => ?_)
                    refine lv_goto (tgt := 145) hx hb dX4_turn_270 (by decide) ?_
                    have e15 : (eN (T 1) 201 (upd (rowP (fun g => trW (U k1) k2 k4 g 201) i) i (trW (U k1) k2 k4 i j))) = (eN (T 1) 201 (upd (rowP (fun g => trW (U k1) k2 k4 g 201) i) i (trW (U k1) k2 k4 i (j + 1)))) := by first | (rw [tr_s0 c219]; done) | (rw [upd_upd, tr_6y c219 c225 c238]; done) | (rw [tr_6n c225 c238]; done) | (rw [upd_upd, tr_y c219 c225 c254]; done) | (rw [tr_n c225 c254]; done)
                    exact hnext_j _ _ _ ⟨hS, lv_sub hl [0, 2, 3, 4, 5, 6, 7, 8, 9] rfl, (by rw [← e15]; exact nb1), (by exact hwk)⟩
                  · skip
                    have c219 : ¬ (snN k2 k4 i j = 0) := fun q9 => c219 ((nc_eq (a := snN k2 k4 i j) (b := 0) (by omega) (by omega)).mpr q9)
                    refine lv_iload_n hx hb dX4_turn_222 rfl (lv_at hl 7 rfl) ?_
                    refine lv_bipush (v := nI 6) hx hb dX4_turn_223 (by decide) ?_
                    refine lv_icmp_ne (tgt := 244) hx hb dX4_turn_225 (by decide) (fun c225 => ?_) (fun c225 => ?_)
                    · skip
                      have c225 : ¬ (k2 = 6) := fun q9 => c225 ((nc_eq (a := k2) (b := 6) (by omega) (by omega)).mpr q9)
                      refine lv_aload hx hb dX4_turn_244 (lv_at hl 5 rfl) ?_
                      refine lv_iload hx hb dX4_turn_246 (lv_at hl 1 rfl) ?_
                      refine q_iald hx hb hK ((hw.u k1 (by omega)).2.kept (hwk _ (hw.u k1 (by omega)).2.lt)) j (rfl) (by omega) (by decide) dX4_turn_248 ?_
                      refine lv_aload hx hb dX4_turn_249 (lv_at hl 4 rfl) ?_
                      refine lv_iload hx hb dX4_turn_251 (lv_at hl 3 rfl) ?_
                      refine q_iald hx hb hK nb1 i (rfl) (by omega) (by decide) dX4_turn_253 ?_
                      rw [pk_us]
                      refine lv_icmp_le (tgt := 267) hx hb dX4_turn_254 (by decide) (fun c254 => ?_) (fun c254 => ?_)
                      · skip
                        refine lv_iinc (v := nI (j + 1)) (lv' := [(8, .int (nI (j + 1))), (9, .int (nI (snN k2 k4 i j))), (6, .int (sumO (U k1) (i + 1))), (7, .int (nI i)), (5, .ref b1), (4, .ref (vv k1)), (3, .int (nI k4)), (2, .int (nI k2)), (1, .int (nI k1)), (0, .ref o)]) hx hb dX4_turn_267 hl (k := 1) rfl (inc_1 _) (by decide) rfl (fun ls hl => ?_)
                        refine lv_goto (tgt := 145) hx hb dX4_turn_270 (by decide) ?_
                        have e16 : (eN (T 1) 201 (upd (rowP (fun g => trW (U k1) k2 k4 g 201) i) i (trW (U k1) k2 k4 i j))) = (eN (T 1) 201 (upd (rowP (fun g => trW (U k1) k2 k4 g 201) i) i (trW (U k1) k2 k4 i (j + 1)))) := by first | (rw [tr_s0 c219]; done) | (rw [upd_upd, tr_6y c219 c225 c238]; done) | (rw [tr_6n c225 c238]; done) | (rw [upd_upd, tr_y c219 c225 c254]; done) | (rw [tr_n c225 c254]; done)
                        exact hnext_j _ _ _ ⟨hS, lv_sub hl [0, 2, 3, 4, 5, 6, 7, 8, 9] rfl, (by rw [← e16]; exact nb1), (by exact hwk)⟩
                      · skip
                        refine lv_aload hx hb dX4_turn_257 (lv_at hl 4 rfl) ?_
                        refine lv_iload hx hb dX4_turn_259 (lv_at hl 3 rfl) ?_
                        refine lv_aload hx hb dX4_turn_261 (lv_at hl 5 rfl) ?_
                        refine lv_iload hx hb dX4_turn_263 (lv_at hl 1 rfl) ?_
                        refine q_iald hx hb hK ((hw.u k1 (by omega)).2.kept (hwk _ (hw.u k1 (by omega)).2.lt)) j (rfl) (by omega) (by decide) dX4_turn_265 ?_
                        refine q_iast hx hb hK nb1 i (rfl) (by omega) (by decide) hS (hA _ (by omega)) dX4_turn_266 (fun H1 locs1 hw9 hz oq hS => ?_)
                        have nb1 := hw9
                        replace hwk := fun (z : Nat) (hz : z < Hw.size) => (oq z (by omega)).trans (hwk z hz)
                        refine lv_iinc (v := nI (j + 1)) (lv' := [(8, .int (nI (j + 1))), (9, .int (nI (snN k2 k4 i j))), (6, .int (sumO (U k1) (i + 1))), (7, .int (nI i)), (5, .ref b1), (4, .ref (vv k1)), (3, .int (nI k4)), (2, .int (nI k2)), (1, .int (nI k1)), (0, .ref o)]) hx hb dX4_turn_267 hl (k := 1) rfl (inc_1 _) (by decide) rfl (fun ls hl => ?_)
                        refine lv_goto (tgt := 145) hx hb dX4_turn_270 (by decide) ?_
                        have e17 : (eN (T 1) 201 (upd (upd (rowP (fun g => trW (U k1) k2 k4 g 201) i) i (trW (U k1) k2 k4 i j)) i ((U k1) j))) = (eN (T 1) 201 (upd (rowP (fun g => trW (U k1) k2 k4 g 201) i) i (trW (U k1) k2 k4 i (j + 1)))) := by first | (rw [tr_s0 c219]; done) | (rw [upd_upd, tr_6y c219 c225 c238]; done) | (rw [tr_6n c225 c238]; done) | (rw [upd_upd, tr_y c219 c225 c254]; done) | (rw [tr_n c225 c254]; done)
                        exact hnext_j _ _ _ ⟨hS, lv_sub hl [0, 2, 3, 4, 5, 6, 7, 8, 9] rfl, (by rw [← e17]; exact nb1), (by exact hwk)⟩
                    · skip
                      have c225 : k2 = 6 := (nc_eq (a := k2) (b := 6) (by omega) (by omega)).mp c225
                      refine lv_aload hx hb dX4_turn_228 (lv_at hl 5 rfl) ?_
                      refine lv_iload hx hb dX4_turn_230 (lv_at hl 1 rfl) ?_
                      refine q_iald hx hb hK ((hw.u k1 (by omega)).2.kept (hwk _ (hw.u k1 (by omega)).2.lt)) j (rfl) (by omega) (by decide) dX4_turn_232 ?_
                      refine lv_aload hx hb dX4_turn_233 (lv_at hl 4 rfl) ?_
                      refine lv_iload hx hb dX4_turn_235 (lv_at hl 3 rfl) ?_
                      refine q_iald hx hb hK nb1 i (rfl) (by omega) (by decide) dX4_turn_237 ?_
                      rw [pk_us]
                      refine lv_icmp_ge (tgt := 267) hx hb dX4_turn_238 (by decide) (fun c238 => ?_) (fun c238 => ?_)
                      · skip
                        refine lv_iinc (v := nI (j + 1)) (lv' := [(8, .int (nI (j + 1))), (9, .int (nI (snN k2 k4 i j))), (6, .int (sumO (U k1) (i + 1))), (7, .int (nI i)), (5, .ref b1), (4, .ref (vv k1)), (3, .int (nI k4)), (2, .int (nI k2)), (1, .int (nI k1)), (0, .ref o)]) hx hb dX4_turn_267 hl (k := 1) rfl (inc_1 _) (by decide) rfl (fun ls hl => ?_)
                        refine lv_goto (tgt := 145) hx hb dX4_turn_270 (by decide) ?_
                        have e18 : (eN (T 1) 201 (upd (rowP (fun g => trW (U k1) k2 k4 g 201) i) i (trW (U k1) k2 k4 i j))) = (eN (T 1) 201 (upd (rowP (fun g => trW (U k1) k2 k4 g 201) i) i (trW (U k1) k2 k4 i (j + 1)))) := by first | (rw [tr_s0 c219]; done) | (rw [upd_upd, tr_6y c219 c225 c238]; done) | (rw [tr_6n c225 c238]; done) | (rw [upd_upd, tr_y c219 c225 c254]; done) | (rw [tr_n c225 c254]; done)
                        exact hnext_j _ _ _ ⟨hS, lv_sub hl [0, 2, 3, 4, 5, 6, 7, 8, 9] rfl, (by rw [← e18]; exact nb1), (by exact hwk)⟩
                      · skip
                        refine lv_goto (tgt := 257) hx hb dX4_turn_241 (by decide) ?_
                        refine lv_aload hx hb dX4_turn_257 (lv_at hl 4 rfl) ?_
                        refine lv_iload hx hb dX4_turn_259 (lv_at hl 3 rfl) ?_
                        refine lv_aload hx hb dX4_turn_261 (lv_at hl 5 rfl) ?_
                        refine lv_iload hx hb dX4_turn_263 (lv_at hl 1 rfl) ?_
                        refine q_iald hx hb hK ((hw.u k1 (by omega)).2.kept (hwk _ (hw.u k1 (by omega)).2.lt)) j (rfl) (by omega) (by decide) dX4_turn_265 ?_
                        refine q_iast hx hb hK nb1 i (rfl) (by omega) (by decide) hS (hA _ (by omega)) dX4_turn_266 (fun H1 locs1 hw9 hz oq hS => ?_)
                        have nb1 := hw9
                        replace hwk := fun (z : Nat) (hz : z < Hw.size) => (oq z (by omega)).trans (hwk z hz)
                        refine lv_iinc (v := nI (j + 1)) (lv' := [(8, .int (nI (j + 1))), (9, .int (nI (snN k2 k4 i j))), (6, .int (sumO (U k1) (i + 1))), (7, .int (nI i)), (5, .ref b1), (4, .ref (vv k1)), (3, .int (nI k4)), (2, .int (nI k2)), (1, .int (nI k1)), (0, .ref o)]) hx hb dX4_turn_267 hl (k := 1) rfl (inc_1 _) (by decide) rfl (fun ls hl => ?_)
                        refine lv_goto (tgt := 145) hx hb dX4_turn_270 (by decide) ?_
                        have e19 : (eN (T 1) 201 (upd (upd (rowP (fun g => trW (U k1) k2 k4 g 201) i) i (trW (U k1) k2 k4 i j)) i ((U k1) j))) = (eN (T 1) 201 (upd (rowP (fun g => trW (U k1) k2 k4 g 201) i) i (trW (U k1) k2 k4 i (j + 1)))) := by first | (rw [tr_s0 c219]; done) | (rw [upd_upd, tr_6y c219 c225 c238]; done) | (rw [tr_6n c225 c238]; done) | (rw [upd_upd, tr_y c219 c225 c254]; done) | (rw [tr_n c225 c254]; done)
                        exact hnext_j _ _ _ ⟨hS, lv_sub hl [0, 2, 3, 4, 5, 6, 7, 8, 9] rfl, (by rw [← e19]; exact nb1), (by exact hwk)⟩
                · skip
                  refine lv_iload_n hx hb dX4_turn_153 rfl (lv_at hl 6 rfl) ?_
                  refine lv_iconst (v := nI 1) hx hb dX4_turn_154 (by decide) ?_
                  refine lv_icmp_ne (tgt := 173) hx hb dX4_turn_155 (by decide) (fun c155 => ?_) (fun c155 => ?_)
                  · skip
                    have c155 : ¬ (k2 = 1) := fun q9 => c155 ((nc_eq (a := k2) (b := 1) (by omega) (by omega)).mpr q9)
                    refine lv_iload_n hx hb dX4_turn_173 rfl (lv_at hl 6 rfl) ?_
                    refine lv_iconst (v := nI 2) hx hb dX4_turn_174 (by decide) ?_
                    refine lv_icmp_ne (tgt := 193) hx hb dX4_turn_175 (by decide) (fun c175 => ?_) (fun c175 => ?_)
                    · skip
                      have c175 : ¬ (k2 = 2) := fun q9 => c175 ((nc_eq (a := k2) (b := 2) (by omega) (by omega)).mpr q9)
                      refine lv_iload_n hx hb dX4_turn_193 rfl (lv_at hl 6 rfl) ?_
                      refine lv_iconst (v := nI 4) hx hb dX4_turn_194 (by decide) ?_
                      refine lv_icmp_le (tgt := 214) hx hb dX4_turn_195 (by decide) (fun c195 => ?_) (fun c195 => ?_)
                      · skip
                        have c195 : k2 ≤ 4 := (nc_le (a := k2) (b := 4) (by omega) (by omega)).mp c195
                        refine lv_iconst (v := nI 0) hx hb dX4_turn_214 (by decide) ?_
                        exact W.eq (congrArg (fun z9 => F0 m 215 ls [.int z9]) (show nI 0 = nI (snN k2 k4 i j) from by unfold snN snP; first | (rw [if_pos (by omega)]; done) | (rw [if_neg (by omega)]; done))) kk
                      · skip
                        have c195 : ¬ (k2 ≤ 4) := fun q9 => c195 ((nc_le (a := k2) (b := 4) (by omega) (by omega)).mpr q9)
                        refine lv_iload hx hb dX4_turn_198 (lv_at hl 0 rfl) ?_
                        refine lv_iload hx hb dX4_turn_200 (lv_at hl 2 rfl) ?_
                        refine lv_isub hx hb dX4_turn_202 ?_
                        refine va_mabs hx hb (hml.trans hl.1.symm) hown (hts (.methodLink RX4 136 Lib.Math.abs.name) (by decide +kernel)) (hts (.static Lib.Math.abs.name) (by decide +kernel)) (hts (.initialized "java/lang/Math") (by decide +kernel)) (hts (.code Lib.Math.abs.name Lib.Math.abs.code 1 (some .int)) (by decide +kernel)) (Nat.le_of_ble_eq_true rfl) (Nat.le_of_ble_eq_true rfl) (by first | omega | decide) (by first | omega | decide) dX4_turn_203 ?_
                        rw [abs_ij (by omega) (by omega)]
                        refine W.eq (g2 := F0 m 206 ls [.int (nI (j - i + (i - j)))]) rfl ?_
                        refine lv_iload_n hx hb dX4_turn_206 rfl (lv_at hl 5 rfl) ?_
                        refine lv_icmp_gt (tgt := 214) hx hb dX4_turn_207 (by decide) (fun c207 => ?_) (fun c207 => ?_)
                        · skip
                          have c207 : k4 < j - i + (i - j) := (nc_lt (a := k4) (b := j - i + (i - j)) (by omega) (by omega)).mp c207
                          refine lv_iconst (v := nI 0) hx hb dX4_turn_214 (by decide) ?_
                          exact W.eq (congrArg (fun z9 => F0 m 215 ls [.int z9]) (show nI 0 = nI (snN k2 k4 i j) from by unfold snN snP; first | (rw [if_pos (by omega)]; done) | (rw [if_neg (by omega)]; done))) kk
                        · skip
                          have c207 : ¬ (k4 < j - i + (i - j)) := fun q9 => c207 ((nc_lt (a := k4) (b := j - i + (i - j)) (by omega) (by omega)).mpr q9)
                          refine lv_iconst (v := nI 1) hx hb dX4_turn_210 (by decide) ?_
                          refine lv_goto (tgt := 215) hx hb dX4_turn_211 (by decide) ?_
                          exact W.eq (congrArg (fun z9 => F0 m 215 ls [.int z9]) (show nI 1 = nI (snN k2 k4 i j) from by unfold snN snP; first | (rw [if_pos (by omega)]; done) | (rw [if_neg (by omega)]; done))) kk
                    · skip
                      have c175 : k2 = 2 := (nc_eq (a := k2) (b := 2) (by omega) (by omega)).mp c175
                      refine lv_iload hx hb dX4_turn_178 (lv_at hl 0 rfl) ?_
                      refine lv_iload hx hb dX4_turn_180 (lv_at hl 2 rfl) ?_
                      refine lv_icmp_lt (tgt := 189) hx hb dX4_turn_182 (by decide) (fun c182 => ?_) (fun c182 => ?_)
                      · skip
                        have c182 : j < i := (nc_lt (a := j) (b := i) (by omega) (by omega)).mp c182
                        refine lv_iconst (v := nI 0) hx hb dX4_turn_189 (by decide) ?_
                        refine lv_goto (tgt := 215) hx hb dX4_turn_190 (by decide) ?_
                        exact W.eq (congrArg (fun z9 => F0 m 215 ls [.int z9]) (show nI 0 = nI (snN k2 k4 i j) from by unfold snN snP; first | (rw [if_pos (by omega)]; done) | (rw [if_neg (by omega)]; done))) kk
                      · skip
                        have c182 : ¬ (j < i) := fun q9 => c182 ((nc_lt (a := j) (b := i) (by omega) (by omega)).mpr q9)
                        refine lv_iconst (v := nI 1) hx hb dX4_turn_185 (by decide) ?_
                        refine lv_goto (tgt := 215) hx hb dX4_turn_186 (by decide) ?_
                        exact W.eq (congrArg (fun z9 => F0 m 215 ls [.int z9]) (show nI 1 = nI (snN k2 k4 i j) from by unfold snN snP; first | (rw [if_pos (by omega)]; done) | (rw [if_neg (by omega)]; done))) kk
                  · skip
                    have c155 : k2 = 1 := (nc_eq (a := k2) (b := 1) (by omega) (by omega)).mp c155
                    refine lv_iload hx hb dX4_turn_158 (lv_at hl 0 rfl) ?_
                    refine lv_iload hx hb dX4_turn_160 (lv_at hl 2 rfl) ?_
                    refine lv_icmp_gt (tgt := 169) hx hb dX4_turn_162 (by decide) (fun c162 => ?_) (fun c162 => ?_)
                    · skip
                      have c162 : i < j := (nc_lt (a := i) (b := j) (by omega) (by omega)).mp c162
                      refine lv_iconst (v := nI 0) hx hb dX4_turn_169 (by decide) ?_
                      refine lv_goto (tgt := 215) hx hb dX4_turn_170 (by decide) ?_
                      exact W.eq (congrArg (fun z9 => F0 m 215 ls [.int z9]) (show nI 0 = nI (snN k2 k4 i j) from by unfold snN snP; first | (rw [if_pos (by omega)]; done) | (rw [if_neg (by omega)]; done))) kk
                    · skip
                      have c162 : ¬ (i < j) := fun q9 => c162 ((nc_lt (a := i) (b := j) (by omega) (by omega)).mpr q9)
                      refine lv_iconst (v := nI 1) hx hb dX4_turn_165 (by decide) ?_
                      refine lv_goto (tgt := 215) hx hb dX4_turn_166 (by decide) ?_
                      exact W.eq (congrArg (fun z9 => F0 m 215 ls [.int z9]) (show nI 1 = nI (snN k2 k4 i j) from by unfold snN snP; first | (rw [if_pos (by omega)]; done) | (rw [if_neg (by omega)]; done))) kk
            · skip
              intro H locs ls hin9
              obtain ⟨hS, hl, nb1, hwk⟩ := hin9
              refine lv_iload hx hb dX4_turn_145 (lv_at hl 0 rfl) ?_
              refine lv_sipush (v := nI 200) hx hb dX4_turn_147 (by decide) ?_
              refine lv_icmp_gt (tgt := 273) hx hb dX4_turn_150 (by decide) (fun c150 => ?_) (fun c150 => ?_)
              · skip
                have c150 : 200 < 201 := (nc_lt (a := 200) (b := 201) (by omega) (by omega)).mp c150
                refine lv_iinc (v := nI (i + 1)) (lv' := [(7, .int (nI (i + 1))), (8, .int (nI 201)), (6, .int (sumO (U k1) (i + 1))), (5, .ref b1), (4, .ref (vv k1)), (3, .int (nI k4)), (2, .int (nI k2)), (1, .int (nI k1)), (0, .ref o)]) hx hb dX4_turn_273 hl (k := 2) rfl (inc_1 _) (by decide) rfl (fun ls hl => ?_)
                refine lv_goto (tgt := 59) hx hb dX4_turn_276 (by decide) ?_
                have e20 : (eN (T 1) 201 (upd (rowP (fun g => trW (U k1) k2 k4 g 201) i) i (trW (U k1) k2 k4 i 201))) = (eN (T 1) 201 (rowP (fun g => trW (U k1) k2 k4 g 201) (i + 1))) := by (rw [rowP_u rfl])
                exact hnext _ _ _ ⟨hS, lv_sub hl [0, 2, 3, 4, 5, 6, 7, 8] rfl, (by rw [← e20]; exact nb1), (by exact hwk)⟩
              · skip
                have c150 : ¬ (200 < 201) := fun q9 => c150 ((nc_lt (a := 200) (b := 201) (by omega) (by omega)).mpr q9)
                omega
          · skip
            refine lv_iload_n hx hb dX4_turn_93 rfl (lv_at hl 5 rfl) ?_
            refine lv_if_ne (tgt := 106) hx hb dX4_turn_94 (by decide) (fun c94 => ?_) (fun c94 => ?_)
            · skip
              have c94 : ¬ (k2 = 0) := fun q9 => c94 ((nc_eq (a := k2) (b := 0) (by omega) (by omega)).mpr q9)
              refine lv_iload_n hx hb dX4_turn_106 rfl (lv_at hl 5 rfl) ?_
              refine lv_iconst (v := nI 3) hx hb dX4_turn_107 (by decide) ?_
              refine lv_icmp_ne (tgt := 119) hx hb dX4_turn_108 (by decide) (fun c108 => ?_) (fun c108 => ?_)
              · skip
                have c108 : ¬ (k2 = 3) := fun q9 => c108 ((nc_eq (a := k2) (b := 3) (by omega) (by omega)).mpr q9)
                refine lv_iload_n hx hb dX4_turn_119 rfl (lv_at hl 5 rfl) ?_
                refine lv_iconst (v := nI 4) hx hb dX4_turn_120 (by decide) ?_
                refine lv_icmp_ne (tgt := 136) hx hb dX4_turn_121 (by decide) (fun c121 => ?_) (fun c121 => ?_)
                · skip
                  have c121 : ¬ (k2 = 4) := fun q9 => c121 ((nc_eq (a := k2) (b := 4) (by omega) (by omega)).mpr q9)
                  refine lv_aload hx hb dX4_turn_136 (lv_at hl 3 rfl) ?_
                  refine lv_iload hx hb dX4_turn_138 (lv_at hl 1 rfl) ?_
                  refine q_iald hx hb hK ((hw.u k1 (by omega)).2.kept (hwk _ (hw.u k1 (by omega)).2.lt)) i (rfl) (by omega) (by decide) dX4_turn_140 ?_
                  exact W.eq (congrArg (fun z9 => F0 m 141 ls [.int z9, .int (nI i), .ref b1]) (show (U k1) i = iniV (U k1) k2 i from by first | exact (ini_0 c94).symm | exact (ini_3 c108).symm | exact (ini_4 c121).symm | exact (ini_x c94 c108 c121).symm)) kk
                · skip
                  have c121 : k2 = 4 := (nc_eq (a := k2) (b := 4) (by omega) (by omega)).mp c121
                  refine lv_aload hx hb dX4_turn_124 (lv_at hl 3 rfl) ?_
                  refine lv_sipush (v := nI 200) hx hb dX4_turn_126 (by decide) ?_
                  refine lv_iload hx hb dX4_turn_129 (lv_at hl 1 rfl) ?_
                  refine lv_isub hx hb dX4_turn_131 ?_
                  rw [pk_sub (a := 200) (b := i) (by omega)]
                  refine q_iald hx hb hK ((hw.u k1 (by omega)).2.kept (hwk _ (hw.u k1 (by omega)).2.lt)) (200 - i) (rfl) (by omega) (by decide) dX4_turn_132 ?_
                  refine lv_goto (tgt := 141) hx hb dX4_turn_133 (by decide) ?_
                  exact W.eq (congrArg (fun z9 => F0 m 141 ls [.int z9, .int (nI i), .ref b1]) (show (U k1) (200 - i) = iniV (U k1) k2 i from by first | exact (ini_0 c94).symm | exact (ini_3 c108).symm | exact (ini_4 c121).symm | exact (ini_x c94 c108 c121).symm)) kk
              · skip
                have c108 : k2 = 3 := (nc_eq (a := k2) (b := 3) (by omega) (by omega)).mp c108
                refine lv_iload hx hb dX4_turn_111 (lv_at hl 0 rfl) ?_
                refine vp_callSi (va_runS (As := [.int (sumO (U k1) (i + 1))]) (rest := [.int (nI i), .ref b1]) ⟨hx, hb, hml, hown, hts⟩ (conX4_kept l D T (sumO (U k1) (i + 1))) (va_cwS 1 hts gX4_turn_X4_kept rfl rfl rfl (by decide +kernel) ⟨Nat.le_of_ble_eq_true rfl, Nat.le_of_ble_eq_true rfl⟩) (preS hK trivial) rfl rfl hl.1 rfl (lv_room (Nat.le_of_ble_eq_true rfl)) dX4_turn_113 ⟨by show _ ≤ 1; omega, by show _ ≤ 201; omega⟩).run (fun r21 hr21 => ?_)
                rw [hr21]
                refine lv_goto (tgt := 141) hx hb dX4_turn_116 (by decide) ?_
                exact W.eq (congrArg (fun z9 => F0 m 141 ls [.int z9, .int (nI i), .ref b1]) (show kepS (sumO (U k1) (i + 1)) = iniV (U k1) k2 i from by first | exact (ini_0 c94).symm | exact (ini_3 c108).symm | exact (ini_4 c121).symm | exact (ini_x c94 c108 c121).symm)) kk
            · skip
              have c94 : k2 = 0 := (nc_eq (a := k2) (b := 0) (by omega) (by omega)).mp c94
              refine lv_aload hx hb dX4_turn_97 (lv_at hl 3 rfl) ?_
              refine lv_iload hx hb dX4_turn_99 (lv_at hl 1 rfl) ?_
              refine q_iald hx hb hK ((hw.u k1 (by omega)).2.kept (hwk _ (hw.u k1 (by omega)).2.lt)) i (rfl) (by omega) (by decide) dX4_turn_101 ?_
              refine lv_ineg hx hb dX4_turn_102 ?_
              refine lv_goto (tgt := 141) hx hb dX4_turn_103 (by decide) ?_
              exact W.eq (congrArg (fun z9 => F0 m 141 ls [.int z9, .int (nI i), .ref b1]) (show -((U k1) i) = iniV (U k1) k2 i from by first | exact (ini_0 c94).symm | exact (ini_3 c108).symm | exact (ini_4 c121).symm | exact (ini_x c94 c108 c121).symm)) kk
        · skip
          refine lv_iload hx hb dX4_turn_67 (lv_at hl 1 rfl) ?_
          refine lv_iload hx hb dX4_turn_69 (lv_at hl 0 rfl) ?_
          refine lv_iconst (v := nI 2) hx hb dX4_turn_71 (by decide) ?_
          refine lv_irem hx hb dX4_turn_72 (by decide) ?_
          rw [pk_rem (a := i) (d := 2) (by omega) (by omega) (by omega)]
          refine lv_iconst (v := nI 1) hx hb dX4_turn_73 (by decide) ?_
          refine lv_icmp_ne (tgt := 85) hx hb dX4_turn_74 (by decide) (fun c74 => ?_) (fun c74 => ?_)
          · skip
            have c74 : ¬ (i % 2 = 1) := fun q9 => c74 ((nc_eq (a := i % 2) (b := 1) (by omega) (by omega)).mpr q9)
            refine lv_iconst (v := nI 0) hx hb dX4_turn_85 (by decide) ?_
            refine lv_iadd hx hb dX4_turn_86 ?_
            exact W.eq (congrArg (fun z9 => F0 m 87 ls [.int z9]) (show (sumO (U k1) i) + (nI 0) = sumO (U k1) (i + 1) from by first | exact sumO_y c74 | exact sumO_n c74)) kk
          · skip
            have c74 : i % 2 = 1 := (nc_eq (a := i % 2) (b := 1) (by omega) (by omega)).mp c74
            refine lv_aload hx hb dX4_turn_77 (lv_at hl 3 rfl) ?_
            refine lv_iload hx hb dX4_turn_79 (lv_at hl 0 rfl) ?_
            refine q_iald hx hb hK ((hw.u k1 (by omega)).2.kept (hwk _ (hw.u k1 (by omega)).2.lt)) i (rfl) (by omega) (by decide) dX4_turn_81 ?_
            refine lv_goto (tgt := 86) hx hb dX4_turn_82 (by decide) ?_
            refine lv_iadd hx hb dX4_turn_86 ?_
            exact W.eq (congrArg (fun z9 => F0 m 87 ls [.int z9]) (show (sumO (U k1) i) + ((U k1) i) = sumO (U k1) (i + 1) from by first | exact sumO_y c74 | exact sumO_n c74)) kk
    · skip
      intro H locs ls hin9
      obtain ⟨hS, hl, nb1, hwk⟩ := hin9
      refine lv_iload hx hb dX4_turn_59 (lv_at hl 0 rfl) ?_
      refine lv_sipush (v := nI 200) hx hb dX4_turn_61 (by decide) ?_
      refine lv_icmp_gt (tgt := 279) hx hb dX4_turn_64 (by decide) (fun c64 => ?_) (fun c64 => ?_)
      · skip
        have c64 : 200 < 201 := (nc_lt (a := 200) (b := 201) (by omega) (by omega)).mp c64
        refine lv_aload_n hx hb dX4_turn_279 rfl (lv_at hl 7 rfl) ?_
        refine q_get (v := .ref (o + 47)) hx hb hts hin4 hown hK (hw.ob.kept (hwk _ hw.ob.lt)) rfl 4 (by decide) (hts (.fieldLink RX4 23 "PuddingstoneLineLaw$Stones" "values" "[[I") (by decide +kernel)) (fun _ h9 => h9) rfl dX4_turn_280 ?_
        refine lv_iload_n hx hb dX4_turn_283 rfl (lv_at hl 6 rfl) ?_
        refine lv_aload hx hb dX4_turn_284 (lv_at hl 2 rfl) ?_
        refine q_aasta hx hb hK 5 1 (ty := .int) rfl rfl hK.2.1.2.2.2.1 (hw.vs.kept (hwk _ hw.vs.lt)) nb1 k1 rfl (by omega) (by decide) (hK.1.2 1 _ rfl).2 hS (hA _ (by omega)) dX4_turn_286 (fun H1 locs1 hw9 hz oq hS => ?_)
        replace hw := (hw.old hwk).setV (k := k1) (m := b1) (u := (rowP (fun g => trW (U k1) k2 k4 g 201) 201)) (by omega) (fun j hj => by have h8 := (hw.u j hj).2.lt; omega) nb1 hw9 oq
        replace nb1 := nb1.ne oq (by omega)
        refine lv_aload_n hx hb dX4_turn_287 rfl (lv_at hl 7 rfl) ?_
        refine q_get (v := .ref (ad 0)) hx hb hts hin4 hown hK hw.ob rfl 0 (by decide) (hts (.fieldLink RX4 10 "PuddingstoneLineLaw$Stones" "m" "LPuddingstoneLine;") (by decide +kernel)) (fun _ h9 => h9) rfl dX4_turn_288 ?_
        refine lv_iload_n hx hb dX4_turn_291 rfl (lv_at hl 6 rfl) ?_
        refine lv_iload_n hx hb dX4_turn_292 rfl (lv_at hl 5 rfl) ?_
        refine lv_iload_n hx hb dX4_turn_293 rfl (lv_at hl 4 rfl) ?_
        refine va_calli (va_runV (As := [.int (nI k1), .int (nI k2), .int (nI k4)]) (rest := []) ⟨hx, hb, hml, hown, hts⟩ (conX3_turn l D T ad F V sr C k1 k2 k4 (nI k4) (by omega) (by omega) (fun _ => ⟨rfl, by omega⟩)) (cwV 3 hts gX4_turn_X3_turn rfl rfl rfl (by decide +kernel) ⟨Nat.le_of_ble_eq_true rfl, Nat.le_of_ble_eq_true rfl⟩) (preV hK hw.pl.o rfl hw.pl) rfl rfl hl.1 rfl (lv_room (Nat.le_of_ble_eq_true rfl)) dX4_turn_294 ⟨by show _ ≤ 1; omega, by show _ ≤ 201; omega⟩) hS (fun q _ h9 => (by obtain ⟨i9, h8, rfl⟩ := h9; exact hA _ (by have := hw.1 i9 h8; omega))) (fun q h9 => (by obtain ⟨i9, h8, rfl⟩ := h9; exact hA _ (by have := hw.1 i9 h8; omega))) (fun r u t H1 locs1 ht hvm hw9 hB hz1 hk1 hS => ?_)
        try dsimp only at hB
        rw [ht] at hB
        rw [hw9]
        replace nb1 := nb1.kept (hk1 _ nb1.lt (fun ⟨i9, h8, h7⟩ => by have := hw.1 i9 h8; omega))
        replace hw := hw.setP hB (fun q h1 h2 => hk1 q h1 h2)
        refine lv_aload hx hb dX4_turn_297 (lv_at hl 2 rfl) ?_
        refine vp_callSi (va_runS (As := [.ref b1]) (rest := [.int (stepsV (trnV (va_up V 5 (copyV (V 5) (V k1) 201)) k1 k2 k4) 200)]) ⟨hx, hb, hml, hown, hts⟩ (conX4_steps l D T b1 (rowP (fun g => trW (U k1) k2 k4 g 201) 201)) (va_cwS 1 hts gX4_turn_X4_steps rfl rfl rfl (by decide +kernel) ⟨Nat.le_of_ble_eq_true rfl, Nat.le_of_ble_eq_true rfl⟩) (preS hK nb1) rfl rfl hl.1 rfl (lv_room (Nat.le_of_ble_eq_true rfl)) dX4_turn_299 ⟨by show _ ≤ 1; omega, by show _ ≤ 201; omega⟩).run (fun r22 hr22 => ?_)
        rw [hr22]
        have hfn := trn_fn (V := V) (u := U k1) (k := k1) (how := k2) (n := k4) (by omega) (by omega) (by omega) (hinv.2.2 k1 · (by omega))
        have hans := steps_eq fun j hj => (hfn j hj).1.symm
        refine lv_icmp_ne (tgt := 309) hx hb dX4_turn_302 (by decide) (fun c302 => ?_) (fun c302 => ?_)
        · skip
          exact absurd hans c302
        · skip
          refine lv_iconst (v := nI 1) hx hb dX4_turn_305 (by decide) ?_
          refine lv_goto (tgt := 310) hx hb dX4_turn_306 (by decide) ?_
          exact W.zret (v := nI 1) hx hb hr (rfl) (fun t ht _ => ⟨⟨nI 1, (), rfl, by rfl, by dsimp only; rw [ht]; exact ⟨_, _, _, _, _, _, _, _, _, by omega, (by have h8 := hS.1; omega), hw, hinv.fun (k := k1) up_nf5 (by rw [va_up_s]; exact hfn)⟩⟩, hS.F ht⟩) hS.2.2 dX4_turn_310
      · skip
        have c64 : ¬ (200 < 201) := fun q9 => c64 ((nc_lt (a := 200) (b := 201) (by omega) (by omega)).mpr q9)
        omega
