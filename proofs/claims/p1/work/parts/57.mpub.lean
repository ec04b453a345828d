/-! THE MODEL'S PUBLIC METHODS ON A FRESH OBJECT: what they throw (tw_..) and answer -/
theorem inM_okL {x : Int32} {m n : Nat} (hm : m < 2 ^ 31) (hn : n < 2 ^ 31) (h : ¬ inM x (nI m) (nI n) = 0) : ∃ k : Nat, m ≤ k ∧ k ≤ n ∧ x = nI k := by
  unfold inM at h
  split at h
  · exact absurd rfl h
  · next h0 =>
    split at h
    · exact absurd rfl h
    · next h1 =>
      have hx : ¬ x < 0 := fun q => h0 (Int32.lt_of_lt_of_le q (show nI 0 ≤ nI m from nI_le (Nat.zero_le m) hm))
      obtain ⟨j, hj, rfl⟩ := nI_of hx
      exact ⟨j, Nat.le_of_not_lt fun q => h0 ((nI_ltI hj hm).mpr q), Nat.le_of_not_lt fun q => h1 ((nI_ltI hn hj).mpr q), rfl⟩
theorem inM_none (x : Int32) : inM x (nI 0) (nI 0 - nI 1) = 0 := by
  unfold inM
  by_cases h : x < nI 0
  · rw [if_pos h]
    rfl
  · rw [if_neg h, if_pos]
    · rfl
    · exact Int32.lt_of_lt_of_le (show nI 0 - nI 1 < nI 0 by decide) (Int32.not_lt.mp h)
def tw_ofSet (x1 x2 : Int32) : Int32 := if inM x1 (nI 0) (nI 7) = 0 then nI 1 else if inM x2 (nI 0) (nI 5) = 0 then nI 2 else nI 0
def tw_ofSpan (x1 x2 x3 : Int32) : Int32 := nI 1
def tw_has (x1 x2 : Int32) : Int32 := if inM x1 (nI 0) (nI 7) = 0 then nI 1 else if inM x2 (nI 0) (nI 200) = 0 then nI 1 else nI 0
def tw_far (x1 x2 : Int32) : Int32 := if inM x1 (nI 0) (nI 7) = 0 then nI 1 else if inM x2 (nI 0) (nI 200) = 0 then nI 1 else nI 0
def tw_beside (x1 x2 : Int32) : Int32 := if inM x1 (nI 0) (nI 7) = 0 then nI 1 else if inM x2 (nI 0) (nI 7) = 0 then nI 1 else nI 0
def tw_ofFunction (x1 x2 : Int32) : Int32 := if inM x1 (nI 0) (nI 4) = 0 then nI 1 else if inM x2 (nI 0) (nI 4) = 0 then nI 2 else nI 0
def tw_value (x1 x2 : Int32) : Int32 := if inM x1 (nI 0) (nI 4) = 0 then nI 1 else if inM x2 (nI 0) (nI 200) = 0 then nI 1 else nI 0
def tw_area (x1 x2 : Int32) : Int32 := if inM x1 (nI 0) (nI 4) = 0 then nI 1 else if inM x2 (nI 0) (nI 7) = 0 then nI 1 else nI 0
def tw_mean (x1 x2 : Int32) : Int32 := if inM x1 (nI 0) (nI 4) = 0 then nI 1 else if inM x2 (nI 0) (nI 7) = 0 then nI 1 else nI 0
def tw_thicker (x1 x2 : Int32) : Int32 := if inM x1 (nI 0) (nI 255) = 0 then nI 1 else nI 0
def tw_cover (x1 x2 : Int32) : Int32 := if inM x2 (nI 0) (nI 7) = 0 then nI 1 else if inM x1 (nI 0) (nI 255) = 0 then nI 2 else nI 0
def tw_covers (x1 x2 x3 : Int32) : Int32 := if inM x2 (nI 0) (nI 7) = 0 then nI 1 else if inM x1 (nI 0) (nI 255) = 0 then nI 2 else nI 1
def tw_apart (x1 : Int32) : Int32 := if inM x1 (nI 0) (nI 255) = 0 then nI 1 else nI 0
def tw_pins (x1 : Int32) : Int32 := if inM x1 (nI 0) (nI 255) = 0 then nI 1 else nI 0
def tw_meetWith (x1 x2 x3 : Int32) : Int32 := if inM x1 (nI 0) (nI 7) = 0 then nI 1 else if inM x3 (nI 0) (nI 7) = 0 then nI 1 else if inM x2 (-100) (nI 100) = 0 then nI 2 else nI 0
def tw_clear (x1 x2 : Int32) : Int32 := if inM x1 (nI 0) (nI 7) = 0 then nI 1 else if inM x2 (nI 0) (nI 7) = 0 then nI 1 else nI 0
def tw_best (x1 x2 : Int32) : Int32 := if inM x1 (nI 0) (nI 4) = 0 then nI 1 else if inM x2 (nI 1) (nI 100) = 0 then nI 2 else nI 0
def tw_saves (x1 x2 x3 : Int32) : Int32 := if inM x2 (nI 0) (nI 7) = 0 then nI 1 else if inM x3 (nI 0) (nI 7) = 0 then nI 1 else if inM x1 (nI 0) (nI 255) = 0 then nI 2 else nI 0
set_option maxHeartbeats 4000000 in
set_option maxRecDepth 100000 in
theorem conX4_ofSet (l : Launch) (D : va_G) (T : Nat → ClassId) (sz m0 : Nat) (th x1 x2 : Int32) : Met l yX4_ofSet wsX4_ofSet ({ frames := 3, cells := 1, slots := 201, locals := 68 }) (cP D T [.ref m0, .int x1, .int x2] (fun H => H.size = sz ∧ MF D T m0 th H)) (va_Qi (fun (r : Int32) (_ : Unit) => tw_ofSet x1 x2 = nI 0 → r = onM x2.toNatClampNeg) (fun _ t => MT D m0 (tw_ofSet x1 x2) t.heap) (MA m0 sz)) 1 201 (MA m0 sz) := by
  refine Met.ofW (cc := cX4_ofSet) (maxL := 3) (ret := (some .int)) (by decide) rfl ?_
  intro p e s m args below meth c s₁ B hml hv9
  obtain ⟨rfl, hK, hsz, hw⟩ := hv9
  have hx := B.exec
  have hb := B.bytes
  have hr := B.returns
  have hts := atoms_spec (ws := wsX4_ofSet) B.pre
  have hown : s.vm.findClass RX4 = some m.cls := findClass_of_methodNamed B.named
  have hlocks := B.notSynchronized
  have hin4 : ∀ w ∈ wsX40, w ∈ wsX4_ofSet := by decide +kernel
  generalize hAe : (MA m0 sz) = A
  have hA : ∀ q : Nat, ((m0 ≤ q ∧ q < m0 + 16) ∨ s.heap.size ≤ q) → A q := fun q h9 => by subst hAe; show (m0 ≤ q ∧ q < m0 + 16) ∨ sz ≤ q; omega
  have hS : va_S A s.heap s.heap [] := va_S.rf
  have hl := lv_entry ([.ref m0, .int x1, .int x2]) (n := 3) (Nat.le_of_ble_eq_true rfl)
  rw [lg_entry_eq]
  generalize (lg_sl ([.ref m0, .int x1, .int x2]) ++ List.replicate (3 - (lg_sl ([.ref m0, .int x1, .int x2])).length) Slot.unset).toArray = ls at hl ⊢
  have hl : lv_has ls 3 [(0, .ref m0), (1, .int x1), (2, .int x2)] := hl
  refine lv_aload_n hx hb dX4_ofSet_0 rfl (lv_at hl 0 rfl) ?_
  refine lv_iconst (v := nI 0) hx hb dX4_ofSet_1 (by decide) ?_
  refine q_put (v := .int (nI 0)) hx hb hts hin4 tyX4 tyX4_ok nmX4 hown hK hw.o rfl 0 (by decide) (hts (.fieldLink RX4 19 "PuddingstoneLineModel" "thrown" "I") (by decide +kernel)) (fun _ h9 => h9) rfl rfl rfl (Nat.le_of_ble_eq_true rfl) hS (hA _ (by omega)) dX4_ofSet_2 (fun H1 locs1 hw9 oq hS => ?_)
  replace hw := hw.setO hw9 oq
  refine lv_iload_n hx hb dX4_ofSet_5 rfl (lv_at hl 1 rfl) ?_
  refine vp_callSi (va_runS (As := [.int x1]) (rest := []) ⟨hx, hb, hml, hown, hts⟩ (conX4_isSet l D T x1) (va_cwS 1 hts gX4_ofSet_X4_isSet rfl rfl rfl (by decide +kernel) ⟨Nat.le_of_ble_eq_true rfl, Nat.le_of_ble_eq_true rfl⟩) (preS hK trivial) rfl rfl hl.1 rfl (lv_room (Nat.le_of_ble_eq_true rfl)) dX4_ofSet_6 ⟨Nat.le_of_ble_eq_true rfl, Nat.le_of_ble_eq_true rfl⟩).run (fun r1 hr1 => ?_)
  rw [hr1]
  refine lv_if_ne (tgt := 18) hx hb dX4_ofSet_9 (by decide) (fun c9 => ?_) (fun c9 => ?_)
  · skip
    obtain ⟨k1, hk1, rfl⟩ := inM_ok (n := 7) (by decide) c9
    refine lv_iload_n hx hb dX4_ofSet_18 rfl (lv_at hl 2 rfl) ?_
    refine lv_iconst (v := nI 0) hx hb dX4_ofSet_19 (by decide) ?_
    refine lv_iconst (v := nI 5) hx hb dX4_ofSet_20 (by decide) ?_
    refine vp_callSi (va_runS (As := [.int x2, .int (nI 0), .int (nI 5)]) (rest := []) ⟨hx, hb, hml, hown, hts⟩ (conX4_isIn l D T x2 (nI 0) (nI 5)) (va_cwS 3 hts gX4_ofSet_X4_isIn rfl rfl rfl (by decide +kernel) ⟨Nat.le_of_ble_eq_true rfl, Nat.le_of_ble_eq_true rfl⟩) (preS hK trivial) rfl rfl hl.1 rfl (lv_room (Nat.le_of_ble_eq_true rfl)) dX4_ofSet_21 ⟨Nat.le_of_ble_eq_true rfl, Nat.le_of_ble_eq_true rfl⟩).run (fun r2 hr2 => ?_)
    rw [hr2]
    refine lv_if_eq (tgt := 36) hx hb dX4_ofSet_24 (by decide) (fun c24 => ?_) (fun c24 => ?_)
    · skip
      refine lv_aload_n hx hb dX4_ofSet_36 rfl (lv_at hl 0 rfl) ?_
      refine lv_iconst (v := nI 2) hx hb dX4_ofSet_37 (by decide) ?_
      refine va_calli (va_runV (As := [.int (nI 2)]) (rest := []) ⟨hx, hb, hml, hown, hts⟩ (conX4_no l D T m0 (nI 0) (nI 2) (.ref (m0 + 1)) (.ref (m0 + 10))) (cwV 1 hts gX4_ofSet_X4_no rfl rfl rfl (by decide +kernel) ⟨Nat.le_of_ble_eq_true rfl, Nat.le_of_ble_eq_true rfl⟩) (preV hK hw.o rfl hw.o) rfl rfl hl.1 rfl (lv_room (Nat.le_of_ble_eq_true rfl)) dX4_ofSet_38 ⟨Nat.le_of_ble_eq_true rfl, Nat.le_of_ble_eq_true rfl⟩) hS (fun q _ h9 => (hA q (by have h8 : q = m0 := h9; omega))) (fun q h9 => (hA q (by have h8 : q = m0 := h9; omega))) (fun r u t H1 locs1 ht hvm hw9 hB hz1 hk1 hS => ?_)
      try dsimp only at hB
      rw [ht] at hB
      rw [hw9]
      replace hw := hw.setK hB hk1
      have ht9 : tw_ofSet (nI k1) x2 = nI 2 := by unfold tw_ofSet; rw [if_neg c9, if_pos c24]
      refine W.widen (k := 1) (n := 201) (by first | omega | decide) (by first | omega | decide) ?_
      exact W.iret (v := nI 0) hx hb hr (fun t ht _ => ⟨⟨nI 0, (), rfl, by exact fun h9 => absurd (ht9.symm.trans h9) (by decide), by dsimp only; rw [ht]; exact (by rw [ht9]; exact ⟨_, _, hw.o⟩)⟩, hS.F ht⟩) hS.2.2 dX4_ofSet_41
    · skip
      obtain ⟨k2, hk2, rfl⟩ := inM_ok (n := 5) (by decide) c24
      refine lv_aload_n hx hb dX4_ofSet_27 rfl (lv_at hl 0 rfl) ?_
      refine lv_iload_n hx hb dX4_ofSet_28 rfl (lv_at hl 1 rfl) ?_
      refine lv_iload_n hx hb dX4_ofSet_29 rfl (lv_at hl 2 rfl) ?_
      obtain ⟨b1, hb1⟩ : ∃ z : Nat, z = H1.size := ⟨_, rfl⟩
      have lw_b1 : m0 + 16 ≤ b1 := by have h8 := hw.lt; omega
      have ln_b1 : s.heap.size ≤ b1 := by have h8 := hS.1; omega
      refine va_calli (va_runV (As := [.int (nI k1), .int (nI k2)]) (rest := []) ⟨hx, hb, hml, hown, hts⟩ (conX4_ofNow l D T b1 m0 (nI 0) k1 k2 (by omega) (by omega)) (cwV 2 hts gX4_ofSet_X4_ofNow rfl rfl rfl (by decide +kernel) ⟨Nat.le_of_ble_eq_true rfl, Nat.le_of_ble_eq_true rfl⟩) (preV hK hw.o rfl ⟨hb1.symm, hw⟩) rfl rfl hl.1 rfl (lv_room (Nat.le_of_ble_eq_true rfl)) dX4_ofSet_30 ⟨Nat.le_of_ble_eq_true rfl, Nat.le_of_ble_eq_true rfl⟩) hS (fun q _ h9 => (hA q (by have h8 : b1 ≤ q := h9; omega))) (fun q h9 => (hA q (by have h8 : b1 ≤ q := h9; omega))) (fun r u t H1 locs1 ht hvm hw9 hB hz1 hk1 hS => ?_)
      try dsimp only at hB
      rw [ht] at hB
      rw [hw9]
      replace hw := hB
      refine lv_goto (tgt := 41) hx hb dX4_ofSet_33 (by decide) ?_
      have ht9 : tw_ofSet (nI k1) (nI k2) = nI 0 := by unfold tw_ofSet; rw [if_neg c9, if_neg c24]
      exact W.iret (v := onM k2) hx hb hr (fun t ht _ => ⟨⟨onM k2, (), rfl, by intro _; rw [nI_clamp (by omega)], by dsimp only; rw [ht]; exact (by rw [ht9]; exact ⟨_, _, hw.o⟩)⟩, hS.F ht⟩) hS.2.2 dX4_ofSet_41
  · skip
    refine lv_aload_n hx hb dX4_ofSet_12 rfl (lv_at hl 0 rfl) ?_
    refine lv_iconst (v := nI 1) hx hb dX4_ofSet_13 (by decide) ?_
    refine va_calli (va_runV (As := [.int (nI 1)]) (rest := []) ⟨hx, hb, hml, hown, hts⟩ (conX4_no l D T m0 (nI 0) (nI 1) (.ref (m0 + 1)) (.ref (m0 + 10))) (cwV 1 hts gX4_ofSet_X4_no rfl rfl rfl (by decide +kernel) ⟨Nat.le_of_ble_eq_true rfl, Nat.le_of_ble_eq_true rfl⟩) (preV hK hw.o rfl hw.o) rfl rfl hl.1 rfl (lv_room (Nat.le_of_ble_eq_true rfl)) dX4_ofSet_14 ⟨Nat.le_of_ble_eq_true rfl, Nat.le_of_ble_eq_true rfl⟩) hS (fun q _ h9 => (hA q (by have h8 : q = m0 := h9; omega))) (fun q h9 => (hA q (by have h8 : q = m0 := h9; omega))) (fun r u t H1 locs1 ht hvm hw9 hB hz1 hk1 hS => ?_)
    try dsimp only at hB
    rw [ht] at hB
    rw [hw9]
    replace hw := hw.setK hB hk1
    have ht9 : tw_ofSet x1 x2 = nI 1 := by unfold tw_ofSet; rw [if_pos c9]
    refine W.widen (k := 1) (n := 201) (by first | omega | decide) (by first | omega | decide) ?_
    exact W.iret (v := nI 0) hx hb hr (fun t ht _ => ⟨⟨nI 0, (), rfl, by exact fun h9 => absurd (ht9.symm.trans h9) (by decide), by dsimp only; rw [ht]; exact (by rw [ht9]; exact ⟨_, _, hw.o⟩)⟩, hS.F ht⟩) hS.2.2 dX4_ofSet_17

set_option maxHeartbeats 4000000 in
set_option maxRecDepth 100000 in
theorem conX4_ofSpan (l : Launch) (D : va_G) (T : Nat → ClassId) (sz m0 : Nat) (th x1 x2 x3 : Int32) : Met l yX4_ofSpan wsX4_ofSpan ({ frames := 2, cells := 0, slots := 0, locals := 46 }) (cP D T [.ref m0, .int x1, .int x2, .int x3] (fun H => H.size = sz ∧ MF D T m0 th H)) (va_Qi (fun (r : Int32) (_ : Unit) => tw_ofSpan x1 x2 x3 = nI 0 → r = nI 0) (fun _ t => MT D m0 (tw_ofSpan x1 x2 x3) t.heap) (MA m0 sz)) 0 0 (MA m0 sz) := by
  refine Met.ofW (cc := cX4_ofSpan) (maxL := 5) (ret := (some .int)) (by decide) rfl ?_
  intro p e s m args below meth c s₁ B hml hv9
  obtain ⟨rfl, hK, hsz, hw⟩ := hv9
  have hx := B.exec
  have hb := B.bytes
  have hr := B.returns
  have hts := atoms_spec (ws := wsX4_ofSpan) B.pre
  have hown : s.vm.findClass RX4 = some m.cls := findClass_of_methodNamed B.named
  have hlocks := B.notSynchronized
  have hin4 : ∀ w ∈ wsX40, w ∈ wsX4_ofSpan := by decide +kernel
  generalize hAe : (MA m0 sz) = A
  have hA : ∀ q : Nat, ((m0 ≤ q ∧ q < m0 + 16) ∨ s.heap.size ≤ q) → A q := fun q h9 => by subst hAe; show (m0 ≤ q ∧ q < m0 + 16) ∨ sz ≤ q; omega
  have hS : va_S A s.heap s.heap [] := va_S.rf
  have hl := lv_entry ([.ref m0, .int x1, .int x2, .int x3]) (n := 5) (Nat.le_of_ble_eq_true rfl)
  rw [lg_entry_eq]
  generalize (lg_sl ([.ref m0, .int x1, .int x2, .int x3]) ++ List.replicate (5 - (lg_sl ([.ref m0, .int x1, .int x2, .int x3])).length) Slot.unset).toArray = ls at hl ⊢
  have hl : lv_has ls 5 [(0, .ref m0), (1, .int x1), (2, .int x2), (3, .int x3)] := hl
  refine lv_aload_n hx hb dX4_ofSpan_0 rfl (lv_at hl 0 rfl) ?_
  refine lv_iconst (v := nI 0) hx hb dX4_ofSpan_1 (by decide) ?_
  refine q_put (v := .int (nI 0)) hx hb hts hin4 tyX4 tyX4_ok nmX4 hown hK hw.o rfl 0 (by decide) (hts (.fieldLink RX4 19 "PuddingstoneLineModel" "thrown" "I") (by decide +kernel)) (fun _ h9 => h9) rfl rfl rfl (Nat.le_of_ble_eq_true rfl) hS (hA _ (by omega)) dX4_ofSpan_2 (fun H1 locs1 hw9 oq hS => ?_)
  replace hw := hw.setO hw9 oq
  refine lv_iload_n hx hb dX4_ofSpan_5 rfl (lv_at hl 1 rfl) ?_
  refine vp_callSi (va_runS (As := [.int x1]) (rest := []) ⟨hx, hb, hml, hown, hts⟩ (conX4_isSet l D T x1) (va_cwS 1 hts gX4_ofSpan_X4_isSet rfl rfl rfl (by decide +kernel) ⟨Nat.le_of_ble_eq_true rfl, Nat.le_of_ble_eq_true rfl⟩) (preS hK trivial) rfl rfl hl.1 rfl (lv_room (Nat.le_of_ble_eq_true rfl)) dX4_ofSpan_6 ⟨Nat.le_of_ble_eq_true rfl, Nat.le_of_ble_eq_true rfl⟩).run (fun r1 hr1 => ?_)
  rw [hr1]
  refine lv_if_eq (tgt := 16) hx hb dX4_ofSpan_9 (by decide) (fun c9 => ?_) (fun c9 => ?_)
  · skip
    refine lv_aload_n hx hb dX4_ofSpan_16 rfl (lv_at hl 0 rfl) ?_
    refine lv_iconst (v := nI 1) hx hb dX4_ofSpan_17 (by decide) ?_
    refine va_calli (va_runV (As := [.int (nI 1)]) (rest := []) ⟨hx, hb, hml, hown, hts⟩ (conX4_no l D T m0 (nI 0) (nI 1) (.ref (m0 + 1)) (.ref (m0 + 10))) (cwV 1 hts gX4_ofSpan_X4_no rfl rfl rfl (by decide +kernel) ⟨Nat.le_of_ble_eq_true rfl, Nat.le_of_ble_eq_true rfl⟩) (preV hK hw.o rfl hw.o) rfl rfl hl.1 rfl (lv_room (Nat.le_of_ble_eq_true rfl)) dX4_ofSpan_18 ⟨Nat.le_of_ble_eq_true rfl, Nat.le_of_ble_eq_true rfl⟩) hS (fun q _ h9 => (hA q (by have h8 : q = m0 := h9; omega))) (fun q h9 => (hA q (by have h8 : q = m0 := h9; omega))) (fun r u t H1 locs1 ht hvm hw9 hB hz1 hk1 hS => ?_)
    try dsimp only at hB
    rw [ht] at hB
    rw [hw9]
    replace hw := hw.setK hB hk1
    have ht9 : tw_ofSpan x1 x2 x3 = nI 1 := by unfold tw_ofSpan; rfl
    exact W.iret (v := nI 0) hx hb hr (fun t ht _ => ⟨⟨nI 0, (), rfl, by exact fun h9 => absurd (ht9.symm.trans h9) (by decide), by dsimp only; rw [ht]; exact (by rw [ht9]; exact ⟨_, _, hw.o⟩)⟩, hS.F ht⟩) hS.2.2 dX4_ofSpan_21
  · skip
    obtain ⟨k1, hk1, rfl⟩ := inM_ok (n := 7) (by decide) c9
    refine lv_iload_n hx hb dX4_ofSpan_12 rfl (lv_at hl 2 rfl) ?_
    refine lv_if_ge (tgt := 22) hx hb dX4_ofSpan_13 (by decide) (fun c13 => ?_) (fun c13 => ?_)
    · skip
      refine lv_aload_n hx hb dX4_ofSpan_22 rfl (lv_at hl 0 rfl) ?_
      refine q_get (v := .ref (m0 + 1)) hx hb hts hin4 hown hK hw.o rfl 1 (by decide) (hts (.fieldLink RX4 11 "PuddingstoneLineModel" "sets" "[[Z") (by decide +kernel)) (fun _ h9 => h9) rfl dX4_ofSpan_23 ?_
      refine lv_iload_n hx hb dX4_ofSpan_26 rfl (lv_at hl 1 rfl) ?_
      refine q_aald hx hb hK 4 rfl rfl hw.s k1 (rfl) (by omega) (by decide) (b := m0 + 2 + k1) rfl dX4_ofSpan_27 ?_
      refine lv_iload_n hx hb dX4_ofSpan_28 rfl (lv_at hl 2 rfl) ?_
      refine vp_callSi (va_runS (As := [.ref (m0 + 2 + k1), .int x2]) (rest := []) ⟨hx, hb, hml, hown, hts⟩ (conX4_begin l D T (m0 + 2 + k1) x2) (va_cwS 2 hts gX4_ofSpan_X4_begin rfl rfl rfl (by decide +kernel) ⟨Nat.le_of_ble_eq_true rfl, Nat.le_of_ble_eq_true rfl⟩) (preS hK ((hw.f k1 (by omega)))) rfl rfl hl.1 rfl (lv_room (Nat.le_of_ble_eq_true rfl)) dX4_ofSpan_29 ⟨Nat.le_of_ble_eq_true rfl, Nat.le_of_ble_eq_true rfl⟩).run (fun r2 hr2 => ?_)
      rw [hr2]
      refine lv_istore (lv' := [(4, .int (nI 201)), (0, .ref m0), (1, .int (nI k1)), (2, .int x2), (3, .int x3)]) hx hb dX4_ofSpan_32 hl (by decide) rfl (fun ls hl => ?_)
      refine lv_iload hx hb dX4_ofSpan_34 (lv_at hl 0 rfl) ?_
      refine lv_sipush (v := nI 201) hx hb dX4_ofSpan_36 (by decide) ?_
      refine lv_icmp_ne (tgt := 48) hx hb dX4_ofSpan_39 (by decide) (fun c39 => ?_) (fun c39 => ?_)
      · skip
        have c39 : ¬ (201 = 201) := fun q9 => c39 ((nc_eq (a := 201) (b := 201) (by omega) (by omega)).mpr q9)
        omega
      · skip
        have c39 : 201 = 201 := (nc_eq (a := 201) (b := 201) (by omega) (by omega)).mp c39
        refine lv_aload_n hx hb dX4_ofSpan_42 rfl (lv_at hl 1 rfl) ?_
        refine lv_iconst (v := nI 1) hx hb dX4_ofSpan_43 (by decide) ?_
        refine va_calli (va_runV (As := [.int (nI 1)]) (rest := []) ⟨hx, hb, hml, hown, hts⟩ (conX4_no l D T m0 (nI 0) (nI 1) (.ref (m0 + 1)) (.ref (m0 + 10))) (cwV 1 hts gX4_ofSpan_X4_no rfl rfl rfl (by decide +kernel) ⟨Nat.le_of_ble_eq_true rfl, Nat.le_of_ble_eq_true rfl⟩) (preV hK hw.o rfl hw.o) rfl rfl hl.1 rfl (lv_room (Nat.le_of_ble_eq_true rfl)) dX4_ofSpan_44 ⟨Nat.le_of_ble_eq_true rfl, Nat.le_of_ble_eq_true rfl⟩) hS (fun q _ h9 => (hA q (by have h8 : q = m0 := h9; omega))) (fun q h9 => (hA q (by have h8 : q = m0 := h9; omega))) (fun r u t H1 locs1 ht hvm hw9 hB hz1 hk1 hS => ?_)
        try dsimp only at hB
        rw [ht] at hB
        rw [hw9]
        replace hw := hw.setK hB hk1
        have ht9 : tw_ofSpan (nI k1) x2 x3 = nI 1 := by unfold tw_ofSpan; rfl
        exact W.iret (v := nI 0) hx hb hr (fun t ht _ => ⟨⟨nI 0, (), rfl, by exact fun h9 => absurd (ht9.symm.trans h9) (by decide), by dsimp only; rw [ht]; exact (by rw [ht9]; exact ⟨_, _, hw.o⟩)⟩, hS.F ht⟩) hS.2.2 dX4_ofSpan_47
    · skip
      refine lv_aload_n hx hb dX4_ofSpan_16 rfl (lv_at hl 0 rfl) ?_
      refine lv_iconst (v := nI 1) hx hb dX4_ofSpan_17 (by decide) ?_
      refine va_calli (va_runV (As := [.int (nI 1)]) (rest := []) ⟨hx, hb, hml, hown, hts⟩ (conX4_no l D T m0 (nI 0) (nI 1) (.ref (m0 + 1)) (.ref (m0 + 10))) (cwV 1 hts gX4_ofSpan_X4_no rfl rfl rfl (by decide +kernel) ⟨Nat.le_of_ble_eq_true rfl, Nat.le_of_ble_eq_true rfl⟩) (preV hK hw.o rfl hw.o) rfl rfl hl.1 rfl (lv_room (Nat.le_of_ble_eq_true rfl)) dX4_ofSpan_18 ⟨Nat.le_of_ble_eq_true rfl, Nat.le_of_ble_eq_true rfl⟩) hS (fun q _ h9 => (hA q (by have h8 : q = m0 := h9; omega))) (fun q h9 => (hA q (by have h8 : q = m0 := h9; omega))) (fun r u t H1 locs1 ht hvm hw9 hB hz1 hk1 hS => ?_)
      try dsimp only at hB
      rw [ht] at hB
      rw [hw9]
      replace hw := hw.setK hB hk1
      have ht9 : tw_ofSpan (nI k1) x2 x3 = nI 1 := by unfold tw_ofSpan; rfl
      exact W.iret (v := nI 0) hx hb hr (fun t ht _ => ⟨⟨nI 0, (), rfl, by exact fun h9 => absurd (ht9.symm.trans h9) (by decide), by dsimp only; rw [ht]; exact (by rw [ht9]; exact ⟨_, _, hw.o⟩)⟩, hS.F ht⟩) hS.2.2 dX4_ofSpan_21

set_option maxHeartbeats 4000000 in
set_option maxRecDepth 100000 in
theorem conX4_has (l : Launch) (D : va_G) (T : Nat → ClassId) (sz m0 : Nat) (th x1 x2 : Int32) : Met l yX4_has wsX4_has ({ frames := 2, cells := 0, slots := 0, locals := 42 }) (cP D T [.ref m0, .int x1, .int x2] (fun H => H.size = sz ∧ MF D T m0 th H)) (va_Qi (fun (r : Int32) (_ : Unit) => tw_has x1 x2 = nI 0 → r = nI 0) (fun _ t => MT D m0 (tw_has x1 x2) t.heap) (MA m0 sz)) 0 0 (MA m0 sz) := by
  refine Met.ofW (cc := cX4_has) (maxL := 3) (ret := (some .boolean)) (by decide) rfl ?_
  intro p e s m args below meth c s₁ B hml hv9
  obtain ⟨rfl, hK, hsz, hw⟩ := hv9
  have hx := B.exec
  have hb := B.bytes
  have hr := B.returns
  have hts := atoms_spec (ws := wsX4_has) B.pre
  have hown : s.vm.findClass RX4 = some m.cls := findClass_of_methodNamed B.named
  have hlocks := B.notSynchronized
  have hin4 : ∀ w ∈ wsX40, w ∈ wsX4_has := by decide +kernel
  generalize hAe : (MA m0 sz) = A
  have hA : ∀ q : Nat, ((m0 ≤ q ∧ q < m0 + 16) ∨ s.heap.size ≤ q) → A q := fun q h9 => by subst hAe; show (m0 ≤ q ∧ q < m0 + 16) ∨ sz ≤ q; omega
  have hS : va_S A s.heap s.heap [] := va_S.rf
  have hl := lv_entry ([.ref m0, .int x1, .int x2]) (n := 3) (Nat.le_of_ble_eq_true rfl)
  rw [lg_entry_eq]
  generalize (lg_sl ([.ref m0, .int x1, .int x2]) ++ List.replicate (3 - (lg_sl ([.ref m0, .int x1, .int x2])).length) Slot.unset).toArray = ls at hl ⊢
  have hl : lv_has ls 3 [(0, .ref m0), (1, .int x1), (2, .int x2)] := hl
  refine lv_aload_n hx hb dX4_has_0 rfl (lv_at hl 0 rfl) ?_
  refine lv_iload_n hx hb dX4_has_1 rfl (lv_at hl 1 rfl) ?_
  refine vp_callSi (va_runS (As := [.int x1]) (rest := [.ref m0]) ⟨hx, hb, hml, hown, hts⟩ (conX4_isSet l D T x1) (va_cwS 1 hts gX4_has_X4_isSet rfl rfl rfl (by decide +kernel) ⟨Nat.le_of_ble_eq_true rfl, Nat.le_of_ble_eq_true rfl⟩) (preS hK trivial) rfl rfl hl.1 rfl (lv_room (Nat.le_of_ble_eq_true rfl)) dX4_has_2 ⟨Nat.le_of_ble_eq_true rfl, Nat.le_of_ble_eq_true rfl⟩).run (fun r1 hr1 => ?_)
  rw [hr1]
  refine lv_if_eq (tgt := 23) hx hb dX4_has_5 (by decide) (fun c5 => ?_) (fun c5 => ?_)
  · skip
    refine lv_iconst (v := nI 1) hx hb dX4_has_23 (by decide) ?_
    refine q_put (v := .int (nI 1)) hx hb hts hin4 tyX4 tyX4_ok nmX4 hown hK hw.o rfl 0 (by decide) (hts (.fieldLink RX4 19 "PuddingstoneLineModel" "thrown" "I") (by decide +kernel)) (fun _ h9 => h9) rfl rfl rfl (Nat.le_of_ble_eq_true rfl) hS (hA _ (by omega)) dX4_has_24 (fun H1 locs1 hw9 oq hS => ?_)
    replace hw := hw.setO hw9 oq
    refine lv_aload_n hx hb dX4_has_27 rfl (lv_at hl 0 rfl) ?_
    refine q_get (v := .int (nI 1)) hx hb hts hin4 hown hK hw.o rfl 0 (by decide) (hts (.fieldLink RX4 19 "PuddingstoneLineModel" "thrown" "I") (by decide +kernel)) (fun _ h9 => h9) rfl dX4_has_28 ?_
    refine lv_if_ne (tgt := 49) hx hb dX4_has_31 (by decide) (fun c31 => ?_) (fun c31 => ?_)
    · skip
      have c31 : ¬ (1 = 0) := fun q9 => c31 ((nc_eq (a := 1) (b := 0) (by omega) (by omega)).mpr q9)
      refine lv_iconst (v := nI 0) hx hb dX4_has_49 (by decide) ?_
      have ht9 : tw_has x1 x2 = nI 1 := by unfold tw_has; rw [if_pos c5]
      exact W.zret (v := nI 0) hx hb hr (rfl) (fun t ht _ => ⟨⟨nI 0, (), rfl, by exact fun h9 => absurd (ht9.symm.trans h9) (by decide), by dsimp only; rw [ht]; exact (by rw [ht9]; exact ⟨_, _, hw.o⟩)⟩, hS.F ht⟩) hS.2.2 dX4_has_50
    · skip
      have c31 : 1 = 0 := (nc_eq (a := 1) (b := 0) (by omega) (by omega)).mp c31
      omega
  · skip
    obtain ⟨k1, hk1, rfl⟩ := inM_ok (n := 7) (by decide) c5
    refine lv_iload_n hx hb dX4_has_8 rfl (lv_at hl 2 rfl) ?_
    refine lv_iconst (v := nI 0) hx hb dX4_has_9 (by decide) ?_
    refine lv_sipush (v := nI 200) hx hb dX4_has_10 (by decide) ?_
    refine vp_callSi (va_runS (As := [.int x2, .int (nI 0), .int (nI 200)]) (rest := [.ref m0]) ⟨hx, hb, hml, hown, hts⟩ (conX4_isIn l D T x2 (nI 0) (nI 200)) (va_cwS 3 hts gX4_has_X4_isIn rfl rfl rfl (by decide +kernel) ⟨Nat.le_of_ble_eq_true rfl, Nat.le_of_ble_eq_true rfl⟩) (preS hK trivial) rfl rfl hl.1 rfl (lv_room (Nat.le_of_ble_eq_true rfl)) dX4_has_13 ⟨Nat.le_of_ble_eq_true rfl, Nat.le_of_ble_eq_true rfl⟩).run (fun r2 hr2 => ?_)
    rw [hr2]
    refine lv_if_eq (tgt := 23) hx hb dX4_has_16 (by decide) (fun c16 => ?_) (fun c16 => ?_)
    · skip
      refine lv_iconst (v := nI 1) hx hb dX4_has_23 (by decide) ?_
      refine q_put (v := .int (nI 1)) hx hb hts hin4 tyX4 tyX4_ok nmX4 hown hK hw.o rfl 0 (by decide) (hts (.fieldLink RX4 19 "PuddingstoneLineModel" "thrown" "I") (by decide +kernel)) (fun _ h9 => h9) rfl rfl rfl (Nat.le_of_ble_eq_true rfl) hS (hA _ (by omega)) dX4_has_24 (fun H1 locs1 hw9 oq hS => ?_)
      replace hw := hw.setO hw9 oq
      refine lv_aload_n hx hb dX4_has_27 rfl (lv_at hl 0 rfl) ?_
      refine q_get (v := .int (nI 1)) hx hb hts hin4 hown hK hw.o rfl 0 (by decide) (hts (.fieldLink RX4 19 "PuddingstoneLineModel" "thrown" "I") (by decide +kernel)) (fun _ h9 => h9) rfl dX4_has_28 ?_
      refine lv_if_ne (tgt := 49) hx hb dX4_has_31 (by decide) (fun c31 => ?_) (fun c31 => ?_)
      · skip
        have c31 : ¬ (1 = 0) := fun q9 => c31 ((nc_eq (a := 1) (b := 0) (by omega) (by omega)).mpr q9)
        refine lv_iconst (v := nI 0) hx hb dX4_has_49 (by decide) ?_
        have ht9 : tw_has (nI k1) x2 = nI 1 := by unfold tw_has; rw [if_neg c5, if_pos c16]
        exact W.zret (v := nI 0) hx hb hr (rfl) (fun t ht _ => ⟨⟨nI 0, (), rfl, by exact fun h9 => absurd (ht9.symm.trans h9) (by decide), by dsimp only; rw [ht]; exact (by rw [ht9]; exact ⟨_, _, hw.o⟩)⟩, hS.F ht⟩) hS.2.2 dX4_has_50
      · skip
        have c31 : 1 = 0 := (nc_eq (a := 1) (b := 0) (by omega) (by omega)).mp c31
        omega
    · skip
      obtain ⟨k2, hk2, rfl⟩ := inM_ok (n := 200) (by decide) c16
      refine lv_iconst (v := nI 0) hx hb dX4_has_19 (by decide) ?_
      refine lv_goto (tgt := 24) hx hb dX4_has_20 (by decide) ?_
      refine q_put (v := .int (nI 0)) hx hb hts hin4 tyX4 tyX4_ok nmX4 hown hK hw.o rfl 0 (by decide) (hts (.fieldLink RX4 19 "PuddingstoneLineModel" "thrown" "I") (by decide +kernel)) (fun _ h9 => h9) rfl rfl rfl (Nat.le_of_ble_eq_true rfl) hS (hA _ (by omega)) dX4_has_24 (fun H1 locs1 hw9 oq hS => ?_)
      replace hw := hw.setO hw9 oq
      refine lv_aload_n hx hb dX4_has_27 rfl (lv_at hl 0 rfl) ?_
      refine q_get (v := .int (nI 0)) hx hb hts hin4 hown hK hw.o rfl 0 (by decide) (hts (.fieldLink RX4 19 "PuddingstoneLineModel" "thrown" "I") (by decide +kernel)) (fun _ h9 => h9) rfl dX4_has_28 ?_
      refine lv_if_ne (tgt := 49) hx hb dX4_has_31 (by decide) (fun c31 => ?_) (fun c31 => ?_)
      · skip
        have c31 : ¬ (0 = 0) := fun q9 => c31 ((nc_eq (a := 0) (b := 0) (by omega) (by omega)).mpr q9)
        omega
      · skip
        have c31 : 0 = 0 := (nc_eq (a := 0) (b := 0) (by omega) (by omega)).mp c31
        refine lv_aload_n hx hb dX4_has_34 rfl (lv_at hl 0 rfl) ?_
        refine q_get (v := .ref (m0 + 1)) hx hb hts hin4 hown hK hw.o rfl 1 (by decide) (hts (.fieldLink RX4 11 "PuddingstoneLineModel" "sets" "[[Z") (by decide +kernel)) (fun _ h9 => h9) rfl dX4_has_35 ?_
        refine lv_iload_n hx hb dX4_has_38 rfl (lv_at hl 1 rfl) ?_
        refine q_aald hx hb hK 4 rfl rfl hw.s k1 (rfl) (by omega) (by decide) (b := m0 + 2 + k1) rfl dX4_has_39 ?_
        refine lv_iload_n hx hb dX4_has_40 rfl (lv_at hl 2 rfl) ?_
        refine q_zald hx hb hK (hw.f k1 (by omega)) k2 (rfl) (by omega) (by decide) dX4_has_41 ?_
        refine W.eq (g2 := F0 m 42 ls [.int (nI 0)]) rfl ?_
        refine lv_if_eq (tgt := 49) hx hb dX4_has_42 (by decide) (fun c42 => ?_) (fun c42 => ?_)
        · skip
          have c42 : 0 = 0 := (nc_eq (a := 0) (b := 0) (by omega) (by omega)).mp c42
          refine lv_iconst (v := nI 0) hx hb dX4_has_49 (by decide) ?_
          have ht9 : tw_has (nI k1) (nI k2) = nI 0 := by unfold tw_has; rw [if_neg c5, if_neg c16]
          exact W.zret (v := nI 0) hx hb hr (rfl) (fun t ht _ => ⟨⟨nI 0, (), rfl, by intro _; rfl, by dsimp only; rw [ht]; exact (by rw [ht9]; exact ⟨_, _, hw.o⟩)⟩, hS.F ht⟩) hS.2.2 dX4_has_50
        · skip
          have c42 : ¬ (0 = 0) := fun q9 => c42 ((nc_eq (a := 0) (b := 0) (by omega) (by omega)).mpr q9)
          omega

set_option maxHeartbeats 4000000 in
set_option maxRecDepth 100000 in
theorem conX4_far (l : Launch) (D : va_G) (T : Nat → ClassId) (sz m0 : Nat) (th x1 x2 : Int32) : Met l yX4_far wsX4_far ({ frames := 2, cells := 0, slots := 0, locals := 42 }) (cP D T [.ref m0, .int x1, .int x2] (fun H => H.size = sz ∧ MF D T m0 th H)) (va_Qi (fun (r : Int32) (_ : Unit) => tw_far x1 x2 = nI 0 → r = (-1)) (fun _ t => MT D m0 (tw_far x1 x2) t.heap) (MA m0 sz)) 0 0 (MA m0 sz) := by
  refine Met.ofW (cc := cX4_far) (maxL := 4) (ret := (some .int)) (by decide) rfl ?_
  intro p e s m args below meth c s₁ B hml hv9
  obtain ⟨rfl, hK, hsz, hw⟩ := hv9
  have hx := B.exec
  have hb := B.bytes
  have hr := B.returns
  have hts := atoms_spec (ws := wsX4_far) B.pre
  have hown : s.vm.findClass RX4 = some m.cls := findClass_of_methodNamed B.named
  have hlocks := B.notSynchronized
  have hin4 : ∀ w ∈ wsX40, w ∈ wsX4_far := by decide +kernel
  generalize hAe : (MA m0 sz) = A
  have hA : ∀ q : Nat, ((m0 ≤ q ∧ q < m0 + 16) ∨ s.heap.size ≤ q) → A q := fun q h9 => by subst hAe; show (m0 ≤ q ∧ q < m0 + 16) ∨ sz ≤ q; omega
  have hS : va_S A s.heap s.heap [] := va_S.rf
  have hl := lv_entry ([.ref m0, .int x1, .int x2]) (n := 4) (Nat.le_of_ble_eq_true rfl)
  rw [lg_entry_eq]
  generalize (lg_sl ([.ref m0, .int x1, .int x2]) ++ List.replicate (4 - (lg_sl ([.ref m0, .int x1, .int x2])).length) Slot.unset).toArray = ls at hl ⊢
  have hl : lv_has ls 4 [(0, .ref m0), (1, .int x1), (2, .int x2)] := hl
  refine lv_aload_n hx hb dX4_far_0 rfl (lv_at hl 0 rfl) ?_
  refine lv_iconst (v := nI 0) hx hb dX4_far_1 (by decide) ?_
  refine q_put (v := .int (nI 0)) hx hb hts hin4 tyX4 tyX4_ok nmX4 hown hK hw.o rfl 0 (by decide) (hts (.fieldLink RX4 19 "PuddingstoneLineModel" "thrown" "I") (by decide +kernel)) (fun _ h9 => h9) rfl rfl rfl (Nat.le_of_ble_eq_true rfl) hS (hA _ (by omega)) dX4_far_2 (fun H1 locs1 hw9 oq hS => ?_)
  replace hw := hw.setO hw9 oq
  refine lv_iload_n hx hb dX4_far_5 rfl (lv_at hl 1 rfl) ?_
  refine vp_callSi (va_runS (As := [.int x1]) (rest := []) ⟨hx, hb, hml, hown, hts⟩ (conX4_isSet l D T x1) (va_cwS 1 hts gX4_far_X4_isSet rfl rfl rfl (by decide +kernel) ⟨Nat.le_of_ble_eq_true rfl, Nat.le_of_ble_eq_true rfl⟩) (preS hK trivial) rfl rfl hl.1 rfl (lv_room (Nat.le_of_ble_eq_true rfl)) dX4_far_6 ⟨Nat.le_of_ble_eq_true rfl, Nat.le_of_ble_eq_true rfl⟩).run (fun r1 hr1 => ?_)
  rw [hr1]
  refine lv_if_eq (tgt := 23) hx hb dX4_far_9 (by decide) (fun c9 => ?_) (fun c9 => ?_)
  · skip
    refine lv_aload_n hx hb dX4_far_23 rfl (lv_at hl 0 rfl) ?_
    refine lv_iconst (v := nI 1) hx hb dX4_far_24 (by decide) ?_
    refine va_calli (va_runV (As := [.int (nI 1)]) (rest := []) ⟨hx, hb, hml, hown, hts⟩ (conX4_no l D T m0 (nI 0) (nI 1) (.ref (m0 + 1)) (.ref (m0 + 10))) (cwV 1 hts gX4_far_X4_no rfl rfl rfl (by decide +kernel) ⟨Nat.le_of_ble_eq_true rfl, Nat.le_of_ble_eq_true rfl⟩) (preV hK hw.o rfl hw.o) rfl rfl hl.1 rfl (lv_room (Nat.le_of_ble_eq_true rfl)) dX4_far_25 ⟨Nat.le_of_ble_eq_true rfl, Nat.le_of_ble_eq_true rfl⟩) hS (fun q _ h9 => (hA q (by have h8 : q = m0 := h9; omega))) (fun q h9 => (hA q (by have h8 : q = m0 := h9; omega))) (fun r u t H1 locs1 ht hvm hw9 hB hz1 hk1 hS => ?_)
    try dsimp only at hB
    rw [ht] at hB
    rw [hw9]
    replace hw := hw.setK hB hk1
    have ht9 : tw_far x1 x2 = nI 1 := by unfold tw_far; rw [if_pos c9]
    exact W.iret (v := nI 0) hx hb hr (fun t ht _ => ⟨⟨nI 0, (), rfl, by exact fun h9 => absurd (ht9.symm.trans h9) (by decide), by dsimp only; rw [ht]; exact (by rw [ht9]; exact ⟨_, _, hw.o⟩)⟩, hS.F ht⟩) hS.2.2 dX4_far_28
  · skip
    obtain ⟨k1, hk1, rfl⟩ := inM_ok (n := 7) (by decide) c9
    refine lv_iload_n hx hb dX4_far_12 rfl (lv_at hl 2 rfl) ?_
    refine lv_iconst (v := nI 0) hx hb dX4_far_13 (by decide) ?_
    refine lv_sipush (v := nI 200) hx hb dX4_far_14 (by decide) ?_
    refine vp_callSi (va_runS (As := [.int x2, .int (nI 0), .int (nI 200)]) (rest := []) ⟨hx, hb, hml, hown, hts⟩ (conX4_isIn l D T x2 (nI 0) (nI 200)) (va_cwS 3 hts gX4_far_X4_isIn rfl rfl rfl (by decide +kernel) ⟨Nat.le_of_ble_eq_true rfl, Nat.le_of_ble_eq_true rfl⟩) (preS hK trivial) rfl rfl hl.1 rfl (lv_room (Nat.le_of_ble_eq_true rfl)) dX4_far_17 ⟨Nat.le_of_ble_eq_true rfl, Nat.le_of_ble_eq_true rfl⟩).run (fun r2 hr2 => ?_)
    rw [hr2]
    refine lv_if_ne (tgt := 29) hx hb dX4_far_20 (by decide) (fun c20 => ?_) (fun c20 => ?_)
    · skip
      obtain ⟨k2, hk2, rfl⟩ := inM_ok (n := 200) (by decide) c20
      refine lv_iconst (v := nI 0) hx hb dX4_far_29 (by decide) ?_
      refine lv_istore_n (lv' := [(3, .int (nI 0)), (0, .ref m0), (1, .int (nI k1)), (2, .int (nI k2))]) hx hb dX4_far_30 rfl hl (by decide) rfl (fun ls hl => ?_)
      refine q_for (fun (i : Nat) (H : Heap) (locs : List Loc) (ls : Array Slot) => va_S A s.heap H locs ∧ lv_has ls 4 [(3, .int (nI i)), (0, .ref m0), (1, .int (nI k1)), (2, .int (nI k2))] ∧ MF D T m0 (nI 0) H) (N := 201) 0 (by omega) ?_ ?_ ?_
      · skip
        exact ⟨hS, lv_sub hl [0, 1, 2, 3] rfl, hw⟩
      · skip
        intro i H locs ls hi9 hin9 hnext
        obtain ⟨hS, hl, hw⟩ := hin9
        refine lv_iload_n hx hb dX4_far_31 rfl (lv_at hl 0 rfl) ?_
        refine lv_sipush (v := nI 201) hx hb dX4_far_32 (by decide) ?_
        refine lv_icmp_ge (tgt := 76) hx hb dX4_far_35 (by decide) (fun c35 => ?_) (fun c35 => ?_)
        · skip
          have c35 : 201 ≤ i := (nc_le (a := 201) (b := i) (by omega) (by omega)).mp c35
          omega
        · skip
          have c35 : ¬ (201 ≤ i) := fun q9 => c35 ((nc_le (a := 201) (b := i) (by omega) (by omega)).mpr q9)
          refine lv_aload_n hx hb dX4_far_38 rfl (lv_at hl 1 rfl) ?_
          refine q_get (v := .ref (m0 + 1)) hx hb hts hin4 hown hK hw.o rfl 1 (by decide) (hts (.fieldLink RX4 11 "PuddingstoneLineModel" "sets" "[[Z") (by decide +kernel)) (fun _ h9 => h9) rfl dX4_far_39 ?_
          refine lv_iload_n hx hb dX4_far_42 rfl (lv_at hl 2 rfl) ?_
          refine q_aald hx hb hK 4 rfl rfl hw.s k1 (rfl) (by omega) (by decide) (b := m0 + 2 + k1) rfl dX4_far_43 ?_
          refine lv_iload_n hx hb dX4_far_44 rfl (lv_at hl 3 rfl) ?_
          refine lv_iload_n hx hb dX4_far_45 rfl (lv_at hl 0 rfl) ?_
          refine lv_isub hx hb dX4_far_46 ?_
          refine vp_callSi (va_runS (As := [.ref (m0 + 2 + k1), .int ((nI k2) - (nI i))]) (rest := []) ⟨hx, hb, hml, hown, hts⟩ (conX4_isAt l D T (m0 + 2 + k1) ((nI k2) - (nI i))) (va_cwS 2 hts gX4_far_X4_isAt rfl rfl rfl (by decide +kernel) ⟨Nat.le_of_ble_eq_true rfl, Nat.le_of_ble_eq_true rfl⟩) (preS hK ((hw.f k1 (by omega)))) rfl rfl hl.1 rfl (lv_room (Nat.le_of_ble_eq_true rfl)) dX4_far_47 ⟨Nat.le_of_ble_eq_true rfl, Nat.le_of_ble_eq_true rfl⟩).run (fun r3 hr3 => ?_)
          rw [hr3]
          refine lv_if_ne (tgt := 68) hx hb dX4_far_50 (by decide) (fun c50 => ?_) (fun c50 => ?_)
          · skip
            have c50 : ¬ (0 = 0) := fun q9 => c50 ((nc_eq (a := 0) (b := 0) (by omega) (by omega)).mpr q9)
            omega
          · skip
            have c50 : 0 = 0 := (nc_eq (a := 0) (b := 0) (by omega) (by omega)).mp c50
            refine lv_aload_n hx hb dX4_far_53 rfl (lv_at hl 1 rfl) ?_
            refine q_get (v := .ref (m0 + 1)) hx hb hts hin4 hown hK hw.o rfl 1 (by decide) (hts (.fieldLink RX4 11 "PuddingstoneLineModel" "sets" "[[Z") (by decide +kernel)) (fun _ h9 => h9) rfl dX4_far_54 ?_
            refine lv_iload_n hx hb dX4_far_57 rfl (lv_at hl 2 rfl) ?_
            refine q_aald hx hb hK 4 rfl rfl hw.s k1 (rfl) (by omega) (by decide) (b := m0 + 2 + k1) rfl dX4_far_58 ?_
            refine lv_iload_n hx hb dX4_far_59 rfl (lv_at hl 3 rfl) ?_
            refine lv_iload_n hx hb dX4_far_60 rfl (lv_at hl 0 rfl) ?_
            refine lv_iadd hx hb dX4_far_61 ?_
            rw [nI_add]
            refine vp_callSi (va_runS (As := [.ref (m0 + 2 + k1), .int (nI (k2 + i))]) (rest := []) ⟨hx, hb, hml, hown, hts⟩ (conX4_isAt l D T (m0 + 2 + k1) (nI (k2 + i))) (va_cwS 2 hts gX4_far_X4_isAt rfl rfl rfl (by decide +kernel) ⟨Nat.le_of_ble_eq_true rfl, Nat.le_of_ble_eq_true rfl⟩) (preS hK ((hw.f k1 (by omega)))) rfl rfl hl.1 rfl (lv_room (Nat.le_of_ble_eq_true rfl)) dX4_far_62 ⟨Nat.le_of_ble_eq_true rfl, Nat.le_of_ble_eq_true rfl⟩).run (fun r4 hr4 => ?_)
            rw [hr4]
            refine lv_if_eq (tgt := 70) hx hb dX4_far_65 (by decide) (fun c65 => ?_) (fun c65 => ?_)
            · skip
              have c65 : 0 = 0 := (nc_eq (a := 0) (b := 0) (by omega) (by omega)).mp c65
              refine lv_iinc (v := nI (i + 1)) (lv' := [(3, .int (nI (i + 1))), (0, .ref m0), (1, .int (nI k1)), (2, .int (nI k2))]) hx hb dX4_far_70 hl (k := 0) rfl (inc_1 _) (by decide) rfl (fun ls hl => ?_)
              refine lv_goto (tgt := 31) hx hb dX4_far_73 (by decide) ?_
              exact hnext _ _ _ ⟨hS, lv_sub hl [0, 1, 2, 3] rfl, hw⟩
            · skip
              have c65 : ¬ (0 = 0) := fun q9 => c65 ((nc_eq (a := 0) (b := 0) (by omega) (by omega)).mpr q9)
              omega
      · skip
        intro H locs ls hin9
        obtain ⟨hS, hl, hw⟩ := hin9
        refine lv_iload_n hx hb dX4_far_31 rfl (lv_at hl 0 rfl) ?_
        refine lv_sipush (v := nI 201) hx hb dX4_far_32 (by decide) ?_
        refine lv_icmp_ge (tgt := 76) hx hb dX4_far_35 (by decide) (fun c35 => ?_) (fun c35 => ?_)
        · skip
          have c35 : 201 ≤ 201 := (nc_le (a := 201) (b := 201) (by omega) (by omega)).mp c35
          refine lv_iconst (v := (-1)) hx hb dX4_far_76 (by decide) ?_
          have ht9 : tw_far (nI k1) (nI k2) = nI 0 := by unfold tw_far; rw [if_neg c9, if_neg c20]
          exact W.iret (v := (-1)) hx hb hr (fun t ht _ => ⟨⟨(-1), (), rfl, by intro _; rfl, by dsimp only; rw [ht]; exact (by rw [ht9]; exact ⟨_, _, hw.o⟩)⟩, hS.F ht⟩) hS.2.2 dX4_far_77
        · skip
          have c35 : ¬ (201 ≤ 201) := fun q9 => c35 ((nc_le (a := 201) (b := 201) (by omega) (by omega)).mpr q9)
          omega
    · skip
      refine lv_aload_n hx hb dX4_far_23 rfl (lv_at hl 0 rfl) ?_
      refine lv_iconst (v := nI 1) hx hb dX4_far_24 (by decide) ?_
      refine va_calli (va_runV (As := [.int (nI 1)]) (rest := []) ⟨hx, hb, hml, hown, hts⟩ (conX4_no l D T m0 (nI 0) (nI 1) (.ref (m0 + 1)) (.ref (m0 + 10))) (cwV 1 hts gX4_far_X4_no rfl rfl rfl (by decide +kernel) ⟨Nat.le_of_ble_eq_true rfl, Nat.le_of_ble_eq_true rfl⟩) (preV hK hw.o rfl hw.o) rfl rfl hl.1 rfl (lv_room (Nat.le_of_ble_eq_true rfl)) dX4_far_25 ⟨Nat.le_of_ble_eq_true rfl, Nat.le_of_ble_eq_true rfl⟩) hS (fun q _ h9 => (hA q (by have h8 : q = m0 := h9; omega))) (fun q h9 => (hA q (by have h8 : q = m0 := h9; omega))) (fun r u t H1 locs1 ht hvm hw9 hB hz1 hk1 hS => ?_)
      try dsimp only at hB
      rw [ht] at hB
      rw [hw9]
      replace hw := hw.setK hB hk1
      have ht9 : tw_far (nI k1) x2 = nI 1 := by unfold tw_far; rw [if_neg c9, if_pos c20]
      exact W.iret (v := nI 0) hx hb hr (fun t ht _ => ⟨⟨nI 0, (), rfl, by exact fun h9 => absurd (ht9.symm.trans h9) (by decide), by dsimp only; rw [ht]; exact (by rw [ht9]; exact ⟨_, _, hw.o⟩)⟩, hS.F ht⟩) hS.2.2 dX4_far_28

set_option maxHeartbeats 4000000 in
set_option maxRecDepth 100000 in
theorem conX4_beside (l : Launch) (D : va_G) (T : Nat → ClassId) (sz m0 : Nat) (th x1 x2 : Int32) : Met l yX4_beside wsX4_beside ({ frames := 2, cells := 0, slots := 0, locals := 42 }) (cP D T [.ref m0, .int x1, .int x2] (fun H => H.size = sz ∧ MF D T m0 th H)) (va_Qi (fun (r : Int32) (_ : Unit) => tw_beside x1 x2 = nI 0 → r = nI 0) (fun _ t => MT D m0 (tw_beside x1 x2) t.heap) (MA m0 sz)) 0 0 (MA m0 sz) := by
  refine Met.ofW (cc := cX4_beside) (maxL := 6) (ret := (some .int)) (by decide) rfl ?_
  intro p e s m args below meth c s₁ B hml hv9
  obtain ⟨rfl, hK, hsz, hw⟩ := hv9
  have hx := B.exec
  have hb := B.bytes
  have hr := B.returns
  have hts := atoms_spec (ws := wsX4_beside) B.pre
  have hown : s.vm.findClass RX4 = some m.cls := findClass_of_methodNamed B.named
  have hlocks := B.notSynchronized
  have hin4 : ∀ w ∈ wsX40, w ∈ wsX4_beside := by decide +kernel
  generalize hAe : (MA m0 sz) = A
  have hA : ∀ q : Nat, ((m0 ≤ q ∧ q < m0 + 16) ∨ s.heap.size ≤ q) → A q := fun q h9 => by subst hAe; show (m0 ≤ q ∧ q < m0 + 16) ∨ sz ≤ q; omega
  have hS : va_S A s.heap s.heap [] := va_S.rf
  have hl := lv_entry ([.ref m0, .int x1, .int x2]) (n := 6) (Nat.le_of_ble_eq_true rfl)
  rw [lg_entry_eq]
  generalize (lg_sl ([.ref m0, .int x1, .int x2]) ++ List.replicate (6 - (lg_sl ([.ref m0, .int x1, .int x2])).length) Slot.unset).toArray = ls at hl ⊢
  have hl : lv_has ls 6 [(0, .ref m0), (1, .int x1), (2, .int x2)] := hl
  refine lv_aload_n hx hb dX4_beside_0 rfl (lv_at hl 0 rfl) ?_
  refine lv_iconst (v := nI 0) hx hb dX4_beside_1 (by decide) ?_
  refine q_put (v := .int (nI 0)) hx hb hts hin4 tyX4 tyX4_ok nmX4 hown hK hw.o rfl 0 (by decide) (hts (.fieldLink RX4 19 "PuddingstoneLineModel" "thrown" "I") (by decide +kernel)) (fun _ h9 => h9) rfl rfl rfl (Nat.le_of_ble_eq_true rfl) hS (hA _ (by omega)) dX4_beside_2 (fun H1 locs1 hw9 oq hS => ?_)
  replace hw := hw.setO hw9 oq
  refine lv_iload_n hx hb dX4_beside_5 rfl (lv_at hl 1 rfl) ?_
  refine vp_callSi (va_runS (As := [.int x1]) (rest := []) ⟨hx, hb, hml, hown, hts⟩ (conX4_isSet l D T x1) (va_cwS 1 hts gX4_beside_X4_isSet rfl rfl rfl (by decide +kernel) ⟨Nat.le_of_ble_eq_true rfl, Nat.le_of_ble_eq_true rfl⟩) (preS hK trivial) rfl rfl hl.1 rfl (lv_room (Nat.le_of_ble_eq_true rfl)) dX4_beside_6 ⟨Nat.le_of_ble_eq_true rfl, Nat.le_of_ble_eq_true rfl⟩).run (fun r1 hr1 => ?_)
  rw [hr1]
  refine lv_if_eq (tgt := 19) hx hb dX4_beside_9 (by decide) (fun c9 => ?_) (fun c9 => ?_)
  · skip
    refine lv_aload_n hx hb dX4_beside_19 rfl (lv_at hl 0 rfl) ?_
    refine lv_iconst (v := nI 1) hx hb dX4_beside_20 (by decide) ?_
    refine va_calli (va_runV (As := [.int (nI 1)]) (rest := []) ⟨hx, hb, hml, hown, hts⟩ (conX4_no l D T m0 (nI 0) (nI 1) (.ref (m0 + 1)) (.ref (m0 + 10))) (cwV 1 hts gX4_beside_X4_no rfl rfl rfl (by decide +kernel) ⟨Nat.le_of_ble_eq_true rfl, Nat.le_of_ble_eq_true rfl⟩) (preV hK hw.o rfl hw.o) rfl rfl hl.1 rfl (lv_room (Nat.le_of_ble_eq_true rfl)) dX4_beside_21 ⟨Nat.le_of_ble_eq_true rfl, Nat.le_of_ble_eq_true rfl⟩) hS (fun q _ h9 => (hA q (by have h8 : q = m0 := h9; omega))) (fun q h9 => (hA q (by have h8 : q = m0 := h9; omega))) (fun r u t H1 locs1 ht hvm hw9 hB hz1 hk1 hS => ?_)
    try dsimp only at hB
    rw [ht] at hB
    rw [hw9]
    replace hw := hw.setK hB hk1
    have ht9 : tw_beside x1 x2 = nI 1 := by unfold tw_beside; rw [if_pos c9]
    exact W.iret (v := nI 0) hx hb hr (fun t ht _ => ⟨⟨nI 0, (), rfl, by exact fun h9 => absurd (ht9.symm.trans h9) (by decide), by dsimp only; rw [ht]; exact (by rw [ht9]; exact ⟨_, _, hw.o⟩)⟩, hS.F ht⟩) hS.2.2 dX4_beside_24
  · skip
    obtain ⟨k1, hk1, rfl⟩ := inM_ok (n := 7) (by decide) c9
    refine lv_iload_n hx hb dX4_beside_12 rfl (lv_at hl 2 rfl) ?_
    refine vp_callSi (va_runS (As := [.int x2]) (rest := []) ⟨hx, hb, hml, hown, hts⟩ (conX4_isSet l D T x2) (va_cwS 1 hts gX4_beside_X4_isSet rfl rfl rfl (by decide +kernel) ⟨Nat.le_of_ble_eq_true rfl, Nat.le_of_ble_eq_true rfl⟩) (preS hK trivial) rfl rfl hl.1 rfl (lv_room (Nat.le_of_ble_eq_true rfl)) dX4_beside_13 ⟨Nat.le_of_ble_eq_true rfl, Nat.le_of_ble_eq_true rfl⟩).run (fun r2 hr2 => ?_)
    rw [hr2]
    refine lv_if_ne (tgt := 25) hx hb dX4_beside_16 (by decide) (fun c16 => ?_) (fun c16 => ?_)
    · skip
      obtain ⟨k2, hk2, rfl⟩ := inM_ok (n := 7) (by decide) c16
      refine lv_iconst (v := nI 0) hx hb dX4_beside_25 (by decide) ?_
      refine lv_istore_n (lv' := [(3, .int (nI 0)), (0, .ref m0), (1, .int (nI k1)), (2, .int (nI k2))]) hx hb dX4_beside_26 rfl hl (by decide) rfl (fun ls hl => ?_)
      refine lv_iconst (v := nI 0) hx hb dX4_beside_27 (by decide) ?_
      refine lv_istore (lv' := [(4, .int (nI 0)), (3, .int (nI 0)), (0, .ref m0), (1, .int (nI k1)), (2, .int (nI k2))]) hx hb dX4_beside_28 hl (by decide) rfl (fun ls hl => ?_)
      refine q_for (fun (i : Nat) (H : Heap) (locs : List Loc) (ls : Array Slot) => va_S A s.heap H locs ∧ lv_has ls 6 [(4, .int (nI i)), (3, .int (nI 0)), (0, .ref m0), (1, .int (nI k1)), (2, .int (nI k2))] ∧ MF D T m0 (nI 0) H) (N := 201) 0 (by omega) ?_ ?_ ?_
      · skip
        exact ⟨hS, lv_sub hl [0, 1, 2, 3, 4] rfl, hw⟩
      · skip
        intro i H locs ls hi9 hin9 hnext
        obtain ⟨hS, hl, hw⟩ := hin9
        refine lv_iload hx hb dX4_beside_30 (lv_at hl 0 rfl) ?_
        refine lv_sipush (v := nI 201) hx hb dX4_beside_32 (by decide) ?_
        refine lv_icmp_ge (tgt := 76) hx hb dX4_beside_35 (by decide) (fun c35 => ?_) (fun c35 => ?_)
        · skip
          have c35 : 201 ≤ i := (nc_le (a := 201) (b := i) (by omega) (by omega)).mp c35
          omega
        · skip
          have c35 : ¬ (201 ≤ i) := fun q9 => c35 ((nc_le (a := 201) (b := i) (by omega) (by omega)).mpr q9)
          refine lv_iload_n hx hb dX4_beside_38 rfl (lv_at hl 1 rfl) ?_
          refine lv_aload_n hx hb dX4_beside_39 rfl (lv_at hl 2 rfl) ?_
          refine q_get (v := .ref (m0 + 1)) hx hb hts hin4 hown hK hw.o rfl 1 (by decide) (hts (.fieldLink RX4 11 "PuddingstoneLineModel" "sets" "[[Z") (by decide +kernel)) (fun _ h9 => h9) rfl dX4_beside_40 ?_
          refine lv_iload_n hx hb dX4_beside_43 rfl (lv_at hl 3 rfl) ?_
          refine q_aald hx hb hK 4 rfl rfl hw.s k1 (rfl) (by omega) (by decide) (b := m0 + 2 + k1) rfl dX4_beside_44 ?_
          refine lv_iload hx hb dX4_beside_45 (lv_at hl 0 rfl) ?_
          refine q_zald hx hb hK (hw.f k1 (by omega)) i (rfl) (by omega) (by decide) dX4_beside_47 ?_
          refine W.eq (g2 := F0 m 48 ls [.int (nI 0), .int (nI 0)]) rfl ?_
          refine lv_if_eq (tgt := 67) hx hb dX4_beside_48 (by decide) (fun c48 => ?_) (fun c48 => ?_)
          · skip
            have c48 : 0 = 0 := (nc_eq (a := 0) (b := 0) (by omega) (by omega)).mp c48
            refine lv_iconst (v := nI 0) hx hb dX4_beside_67 (by decide) ?_
            refine lv_iadd hx hb dX4_beside_68 ?_
            rw [nI_add]
            refine lv_istore_n (lv' := [(3, .int (nI 0)), (4, .int (nI i)), (0, .ref m0), (1, .int (nI k1)), (2, .int (nI k2))]) hx hb dX4_beside_69 rfl hl (by decide) rfl (fun ls hl => ?_)
            refine lv_iinc (v := nI (i + 1)) (lv' := [(4, .int (nI (i + 1))), (3, .int (nI 0)), (0, .ref m0), (1, .int (nI k1)), (2, .int (nI k2))]) hx hb dX4_beside_70 hl (k := 1) rfl (inc_1 _) (by decide) rfl (fun ls hl => ?_)
            refine lv_goto (tgt := 30) hx hb dX4_beside_73 (by decide) ?_
            exact hnext _ _ _ ⟨hS, lv_sub hl [0, 1, 2, 3, 4] rfl, hw⟩
          · skip
            have c48 : ¬ (0 = 0) := fun q9 => c48 ((nc_eq (a := 0) (b := 0) (by omega) (by omega)).mpr q9)
            omega
      · skip
        intro H locs ls hin9
        obtain ⟨hS, hl, hw⟩ := hin9
        refine lv_iload hx hb dX4_beside_30 (lv_at hl 0 rfl) ?_
        refine lv_sipush (v := nI 201) hx hb dX4_beside_32 (by decide) ?_
        refine lv_icmp_ge (tgt := 76) hx hb dX4_beside_35 (by decide) (fun c35 => ?_) (fun c35 => ?_)
        · skip
          have c35 : 201 ≤ 201 := (nc_le (a := 201) (b := 201) (by omega) (by omega)).mp c35
          refine lv_iload_n hx hb dX4_beside_76 rfl (lv_at hl 1 rfl) ?_
          refine lv_aload_n hx hb dX4_beside_77 rfl (lv_at hl 2 rfl) ?_
          refine q_get (v := .ref (m0 + 1)) hx hb hts hin4 hown hK hw.o rfl 1 (by decide) (hts (.fieldLink RX4 11 "PuddingstoneLineModel" "sets" "[[Z") (by decide +kernel)) (fun _ h9 => h9) rfl dX4_beside_78 ?_
          refine lv_iload_n hx hb dX4_beside_81 rfl (lv_at hl 3 rfl) ?_
          refine q_aald hx hb hK 4 rfl rfl hw.s k1 (rfl) (by omega) (by decide) (b := m0 + 2 + k1) rfl dX4_beside_82 ?_
          refine vp_callSi (va_runS (As := [.ref (m0 + 2 + k1)]) (rest := [.int (nI 0)]) ⟨hx, hb, hml, hown, hts⟩ (conX4_count l D T (m0 + 2 + k1) (nI 0)) (va_cwS 1 hts gX4_beside_X4_count rfl rfl rfl (by decide +kernel) ⟨Nat.le_of_ble_eq_true rfl, Nat.le_of_ble_eq_true rfl⟩) (preS hK ((hw.f k1 (by omega)))) rfl rfl hl.1 rfl (lv_room (Nat.le_of_ble_eq_true rfl)) dX4_beside_83 ⟨Nat.le_of_ble_eq_true rfl, Nat.le_of_ble_eq_true rfl⟩).run (fun r3 hr3 => ?_)
          rw [hr3]
          rw [cntc_z]
          refine lv_icmp_ne (tgt := 93) hx hb dX4_beside_86 (by decide) (fun c86 => ?_) (fun c86 => ?_)
          · skip
            have c86 : ¬ (0 = 0) := fun q9 => c86 ((nc_eq (a := 0) (b := 0) (by omega) (by omega)).mpr q9)
            omega
          · skip
            have c86 : 0 = 0 := (nc_eq (a := 0) (b := 0) (by omega) (by omega)).mp c86
            refine lv_iconst (v := nI 1) hx hb dX4_beside_89 (by decide) ?_
            refine lv_goto (tgt := 94) hx hb dX4_beside_90 (by decide) ?_
            refine lv_istore (lv' := [(4, .int (nI 1)), (3, .int (nI 0)), (0, .ref m0), (1, .int (nI k1)), (2, .int (nI k2))]) hx hb dX4_beside_94 hl (by decide) rfl (fun ls hl => ?_)
            refine lv_iload_n hx hb dX4_beside_96 rfl (lv_at hl 1 rfl) ?_
            refine lv_aload_n hx hb dX4_beside_97 rfl (lv_at hl 2 rfl) ?_
            refine q_get (v := .ref (m0 + 1)) hx hb hts hin4 hown hK hw.o rfl 1 (by decide) (hts (.fieldLink RX4 11 "PuddingstoneLineModel" "sets" "[[Z") (by decide +kernel)) (fun _ h9 => h9) rfl dX4_beside_98 ?_
            refine lv_iload_n hx hb dX4_beside_101 rfl (lv_at hl 4 rfl) ?_
            refine q_aald hx hb hK 4 rfl rfl hw.s k2 (rfl) (by omega) (by decide) (b := m0 + 2 + k2) rfl dX4_beside_102 ?_
            refine vp_callSi (va_runS (As := [.ref (m0 + 2 + k2)]) (rest := [.int (nI 0)]) ⟨hx, hb, hml, hown, hts⟩ (conX4_count l D T (m0 + 2 + k2) (nI 0)) (va_cwS 1 hts gX4_beside_X4_count rfl rfl rfl (by decide +kernel) ⟨Nat.le_of_ble_eq_true rfl, Nat.le_of_ble_eq_true rfl⟩) (preS hK ((hw.f k2 (by omega)))) rfl rfl hl.1 rfl (lv_room (Nat.le_of_ble_eq_true rfl)) dX4_beside_103 ⟨Nat.le_of_ble_eq_true rfl, Nat.le_of_ble_eq_true rfl⟩).run (fun r4 hr4 => ?_)
            rw [hr4]
            rw [cntc_z]
            refine lv_icmp_ne (tgt := 113) hx hb dX4_beside_106 (by decide) (fun c106 => ?_) (fun c106 => ?_)
            · skip
              have c106 : ¬ (0 = 0) := fun q9 => c106 ((nc_eq (a := 0) (b := 0) (by omega) (by omega)).mpr q9)
              omega
            · skip
              have c106 : 0 = 0 := (nc_eq (a := 0) (b := 0) (by omega) (by omega)).mp c106
              refine lv_iconst (v := nI 1) hx hb dX4_beside_109 (by decide) ?_
              refine lv_goto (tgt := 114) hx hb dX4_beside_110 (by decide) ?_
              refine lv_istore (lv' := [(5, .int (nI 1)), (4, .int (nI 1)), (3, .int (nI 0)), (0, .ref m0), (1, .int (nI k1)), (2, .int (nI k2))]) hx hb dX4_beside_114 hl (by decide) rfl (fun ls hl => ?_)
              refine lv_iload hx hb dX4_beside_116 (lv_at hl 1 rfl) ?_
              refine lv_if_eq (tgt := 130) hx hb dX4_beside_118 (by decide) (fun c118 => ?_) (fun c118 => ?_)
              · skip
                have c118 : 1 = 0 := (nc_eq (a := 1) (b := 0) (by omega) (by omega)).mp c118
                omega
              · skip
                have c118 : ¬ (1 = 0) := fun q9 => c118 ((nc_eq (a := 1) (b := 0) (by omega) (by omega)).mpr q9)
                refine lv_iload hx hb dX4_beside_121 (lv_at hl 0 rfl) ?_
                refine lv_if_eq (tgt := 130) hx hb dX4_beside_123 (by decide) (fun c123 => ?_) (fun c123 => ?_)
                · skip
                  have c123 : 1 = 0 := (nc_eq (a := 1) (b := 0) (by omega) (by omega)).mp c123
                  omega
                · skip
                  have c123 : ¬ (1 = 0) := fun q9 => c123 ((nc_eq (a := 1) (b := 0) (by omega) (by omega)).mpr q9)
                  refine lv_iconst (v := nI 0) hx hb dX4_beside_126 (by decide) ?_
                  refine lv_goto (tgt := 157) hx hb dX4_beside_127 (by decide) ?_
                  have ht9 : tw_beside (nI k1) (nI k2) = nI 0 := by unfold tw_beside; rw [if_neg c9, if_neg c16]
                  exact W.iret (v := nI 0) hx hb hr (fun t ht _ => ⟨⟨nI 0, (), rfl, by intro _; rfl, by dsimp only; rw [ht]; exact (by rw [ht9]; exact ⟨_, _, hw.o⟩)⟩, hS.F ht⟩) hS.2.2 dX4_beside_157
        · skip
          have c35 : ¬ (201 ≤ 201) := fun q9 => c35 ((nc_le (a := 201) (b := 201) (by omega) (by omega)).mpr q9)
          omega
    · skip
      refine lv_aload_n hx hb dX4_beside_19 rfl (lv_at hl 0 rfl) ?_
      refine lv_iconst (v := nI 1) hx hb dX4_beside_20 (by decide) ?_
      refine va_calli (va_runV (As := [.int (nI 1)]) (rest := []) ⟨hx, hb, hml, hown, hts⟩ (conX4_no l D T m0 (nI 0) (nI 1) (.ref (m0 + 1)) (.ref (m0 + 10))) (cwV 1 hts gX4_beside_X4_no rfl rfl rfl (by decide +kernel) ⟨Nat.le_of_ble_eq_true rfl, Nat.le_of_ble_eq_true rfl⟩) (preV hK hw.o rfl hw.o) rfl rfl hl.1 rfl (lv_room (Nat.le_of_ble_eq_true rfl)) dX4_beside_21 ⟨Nat.le_of_ble_eq_true rfl, Nat.le_of_ble_eq_true rfl⟩) hS (fun q _ h9 => (hA q (by have h8 : q = m0 := h9; omega))) (fun q h9 => (hA q (by have h8 : q = m0 := h9; omega))) (fun r u t H1 locs1 ht hvm hw9 hB hz1 hk1 hS => ?_)
      try dsimp only at hB
      rw [ht] at hB
      rw [hw9]
      replace hw := hw.setK hB hk1
      have ht9 : tw_beside (nI k1) x2 = nI 1 := by unfold tw_beside; rw [if_neg c9, if_pos c16]
      exact W.iret (v := nI 0) hx hb hr (fun t ht _ => ⟨⟨nI 0, (), rfl, by exact fun h9 => absurd (ht9.symm.trans h9) (by decide), by dsimp only; rw [ht]; exact (by rw [ht9]; exact ⟨_, _, hw.o⟩)⟩, hS.F ht⟩) hS.2.2 dX4_beside_24

set_option maxHeartbeats 4000000 in
set_option maxRecDepth 100000 in
theorem conX4_ofFunction (l : Launch) (D : va_G) (T : Nat → ClassId) (sz m0 : Nat) (th x1 x2 : Int32) : Met l yX4_ofFunction wsX4_ofFunction ({ frames := 3, cells := 1, slots := 201, locals := 62 }) (cP D T [.ref m0, .int x1, .int x2] (fun H => H.size = sz ∧ MF D T m0 th H)) (va_Qi (fun (r : Int32) (_ : Unit) => tw_ofFunction x1 x2 = nI 0 → r = fnM x2.toNatClampNeg) (fun _ t => MT D m0 (tw_ofFunction x1 x2) t.heap) (MA m0 sz)) 1 201 (MA m0 sz) := by
  refine Met.ofW (cc := cX4_ofFunction) (maxL := 3) (ret := (some .int)) (by decide) rfl ?_
  intro p e s m args below meth c s₁ B hml hv9
  obtain ⟨rfl, hK, hsz, hw⟩ := hv9
  have hx := B.exec
  have hb := B.bytes
  have hr := B.returns
  have hts := atoms_spec (ws := wsX4_ofFunction) B.pre
  have hown : s.vm.findClass RX4 = some m.cls := findClass_of_methodNamed B.named
  have hlocks := B.notSynchronized
  have hin4 : ∀ w ∈ wsX40, w ∈ wsX4_ofFunction := by decide +kernel
  generalize hAe : (MA m0 sz) = A
  have hA : ∀ q : Nat, ((m0 ≤ q ∧ q < m0 + 16) ∨ s.heap.size ≤ q) → A q := fun q h9 => by subst hAe; show (m0 ≤ q ∧ q < m0 + 16) ∨ sz ≤ q; omega
  have hS : va_S A s.heap s.heap [] := va_S.rf
  have hl := lv_entry ([.ref m0, .int x1, .int x2]) (n := 3) (Nat.le_of_ble_eq_true rfl)
  rw [lg_entry_eq]
  generalize (lg_sl ([.ref m0, .int x1, .int x2]) ++ List.replicate (3 - (lg_sl ([.ref m0, .int x1, .int x2])).length) Slot.unset).toArray = ls at hl ⊢
  have hl : lv_has ls 3 [(0, .ref m0), (1, .int x1), (2, .int x2)] := hl
  refine lv_aload_n hx hb dX4_ofFunction_0 rfl (lv_at hl 0 rfl) ?_
  refine lv_iconst (v := nI 0) hx hb dX4_ofFunction_1 (by decide) ?_
  refine q_put (v := .int (nI 0)) hx hb hts hin4 tyX4 tyX4_ok nmX4 hown hK hw.o rfl 0 (by decide) (hts (.fieldLink RX4 19 "PuddingstoneLineModel" "thrown" "I") (by decide +kernel)) (fun _ h9 => h9) rfl rfl rfl (Nat.le_of_ble_eq_true rfl) hS (hA _ (by omega)) dX4_ofFunction_2 (fun H1 locs1 hw9 oq hS => ?_)
  replace hw := hw.setO hw9 oq
  refine lv_iload_n hx hb dX4_ofFunction_5 rfl (lv_at hl 1 rfl) ?_
  refine vp_callSi (va_runS (As := [.int x1]) (rest := []) ⟨hx, hb, hml, hown, hts⟩ (conX4_isFunction l D T x1) (va_cwS 1 hts gX4_ofFunction_X4_isFunction rfl rfl rfl (by decide +kernel) ⟨Nat.le_of_ble_eq_true rfl, Nat.le_of_ble_eq_true rfl⟩) (preS hK trivial) rfl rfl hl.1 rfl (lv_room (Nat.le_of_ble_eq_true rfl)) dX4_ofFunction_6 ⟨Nat.le_of_ble_eq_true rfl, Nat.le_of_ble_eq_true rfl⟩).run (fun r1 hr1 => ?_)
  rw [hr1]
  refine lv_if_ne (tgt := 18) hx hb dX4_ofFunction_9 (by decide) (fun c9 => ?_) (fun c9 => ?_)
  · skip
    obtain ⟨k1, hk1, rfl⟩ := inM_ok (n := 4) (by decide) c9
    refine lv_iload_n hx hb dX4_ofFunction_18 rfl (lv_at hl 2 rfl) ?_
    refine lv_iconst (v := nI 0) hx hb dX4_ofFunction_19 (by decide) ?_
    refine lv_iconst (v := nI 4) hx hb dX4_ofFunction_20 (by decide) ?_
    refine vp_callSi (va_runS (As := [.int x2, .int (nI 0), .int (nI 4)]) (rest := []) ⟨hx, hb, hml, hown, hts⟩ (conX4_isIn l D T x2 (nI 0) (nI 4)) (va_cwS 3 hts gX4_ofFunction_X4_isIn rfl rfl rfl (by decide +kernel) ⟨Nat.le_of_ble_eq_true rfl, Nat.le_of_ble_eq_true rfl⟩) (preS hK trivial) rfl rfl hl.1 rfl (lv_room (Nat.le_of_ble_eq_true rfl)) dX4_ofFunction_21 ⟨Nat.le_of_ble_eq_true rfl, Nat.le_of_ble_eq_true rfl⟩).run (fun r2 hr2 => ?_)
    rw [hr2]
    refine lv_if_eq (tgt := 36) hx hb dX4_ofFunction_24 (by decide) (fun c24 => ?_) (fun c24 => ?_)
    · skip
      refine lv_aload_n hx hb dX4_ofFunction_36 rfl (lv_at hl 0 rfl) ?_
      refine lv_iconst (v := nI 2) hx hb dX4_ofFunction_37 (by decide) ?_
      refine va_calli (va_runV (As := [.int (nI 2)]) (rest := []) ⟨hx, hb, hml, hown, hts⟩ (conX4_no l D T m0 (nI 0) (nI 2) (.ref (m0 + 1)) (.ref (m0 + 10))) (cwV 1 hts gX4_ofFunction_X4_no rfl rfl rfl (by decide +kernel) ⟨Nat.le_of_ble_eq_true rfl, Nat.le_of_ble_eq_true rfl⟩) (preV hK hw.o rfl hw.o) rfl rfl hl.1 rfl (lv_room (Nat.le_of_ble_eq_true rfl)) dX4_ofFunction_38 ⟨Nat.le_of_ble_eq_true rfl, Nat.le_of_ble_eq_true rfl⟩) hS (fun q _ h9 => (hA q (by have h8 : q = m0 := h9; omega))) (fun q h9 => (hA q (by have h8 : q = m0 := h9; omega))) (fun r u t H1 locs1 ht hvm hw9 hB hz1 hk1 hS => ?_)
      try dsimp only at hB
      rw [ht] at hB
      rw [hw9]
      replace hw := hw.setK hB hk1
      have ht9 : tw_ofFunction (nI k1) x2 = nI 2 := by unfold tw_ofFunction; rw [if_neg c9, if_pos c24]
      refine W.widen (k := 1) (n := 201) (by first | omega | decide) (by first | omega | decide) ?_
      exact W.iret (v := nI 0) hx hb hr (fun t ht _ => ⟨⟨nI 0, (), rfl, by exact fun h9 => absurd (ht9.symm.trans h9) (by decide), by dsimp only; rw [ht]; exact (by rw [ht9]; exact ⟨_, _, hw.o⟩)⟩, hS.F ht⟩) hS.2.2 dX4_ofFunction_41
    · skip
      obtain ⟨k2, hk2, rfl⟩ := inM_ok (n := 4) (by decide) c24
      refine lv_aload_n hx hb dX4_ofFunction_27 rfl (lv_at hl 0 rfl) ?_
      refine lv_iload_n hx hb dX4_ofFunction_28 rfl (lv_at hl 1 rfl) ?_
      refine lv_iload_n hx hb dX4_ofFunction_29 rfl (lv_at hl 2 rfl) ?_
      obtain ⟨b1, hb1⟩ : ∃ z : Nat, z = H1.size := ⟨_, rfl⟩
      have lw_b1 : m0 + 16 ≤ b1 := by have h8 := hw.lt; omega
      have ln_b1 : s.heap.size ≤ b1 := by have h8 := hS.1; omega
      refine va_calli (va_runV (As := [.int (nI k1), .int (nI k2)]) (rest := []) ⟨hx, hb, hml, hown, hts⟩ (conX4_functionNow l D T b1 m0 (nI 0) k1 k2 (by omega) (by omega)) (cwV 2 hts gX4_ofFunction_X4_functionNow rfl rfl rfl (by decide +kernel) ⟨Nat.le_of_ble_eq_true rfl, Nat.le_of_ble_eq_true rfl⟩) (preV hK hw.o rfl ⟨hb1.symm, hw⟩) rfl rfl hl.1 rfl (lv_room (Nat.le_of_ble_eq_true rfl)) dX4_ofFunction_30 ⟨Nat.le_of_ble_eq_true rfl, Nat.le_of_ble_eq_true rfl⟩) hS (fun q _ h9 => (hA q (by have h8 : b1 ≤ q := h9; omega))) (fun q h9 => (hA q (by have h8 : b1 ≤ q := h9; omega))) (fun r u t H1 locs1 ht hvm hw9 hB hz1 hk1 hS => ?_)
      try dsimp only at hB
      rw [ht] at hB
      rw [hw9]
      replace hw := hB
      refine lv_goto (tgt := 41) hx hb dX4_ofFunction_33 (by decide) ?_
      have ht9 : tw_ofFunction (nI k1) (nI k2) = nI 0 := by unfold tw_ofFunction; rw [if_neg c9, if_neg c24]
      exact W.iret (v := fnM k2) hx hb hr (fun t ht _ => ⟨⟨fnM k2, (), rfl, by intro _; rw [nI_clamp (by omega)], by dsimp only; rw [ht]; exact (by rw [ht9]; exact ⟨_, _, hw.o⟩)⟩, hS.F ht⟩) hS.2.2 dX4_ofFunction_41
  · skip
    refine lv_aload_n hx hb dX4_ofFunction_12 rfl (lv_at hl 0 rfl) ?_
    refine lv_iconst (v := nI 1) hx hb dX4_ofFunction_13 (by decide) ?_
    refine va_calli (va_runV (As := [.int (nI 1)]) (rest := []) ⟨hx, hb, hml, hown, hts⟩ (conX4_no l D T m0 (nI 0) (nI 1) (.ref (m0 + 1)) (.ref (m0 + 10))) (cwV 1 hts gX4_ofFunction_X4_no rfl rfl rfl (by decide +kernel) ⟨Nat.le_of_ble_eq_true rfl, Nat.le_of_ble_eq_true rfl⟩) (preV hK hw.o rfl hw.o) rfl rfl hl.1 rfl (lv_room (Nat.le_of_ble_eq_true rfl)) dX4_ofFunction_14 ⟨Nat.le_of_ble_eq_true rfl, Nat.le_of_ble_eq_true rfl⟩) hS (fun q _ h9 => (hA q (by have h8 : q = m0 := h9; omega))) (fun q h9 => (hA q (by have h8 : q = m0 := h9; omega))) (fun r u t H1 locs1 ht hvm hw9 hB hz1 hk1 hS => ?_)
    try dsimp only at hB
    rw [ht] at hB
    rw [hw9]
    replace hw := hw.setK hB hk1
    have ht9 : tw_ofFunction x1 x2 = nI 1 := by unfold tw_ofFunction; rw [if_pos c9]
    refine W.widen (k := 1) (n := 201) (by first | omega | decide) (by first | omega | decide) ?_
    exact W.iret (v := nI 0) hx hb hr (fun t ht _ => ⟨⟨nI 0, (), rfl, by exact fun h9 => absurd (ht9.symm.trans h9) (by decide), by dsimp only; rw [ht]; exact (by rw [ht9]; exact ⟨_, _, hw.o⟩)⟩, hS.F ht⟩) hS.2.2 dX4_ofFunction_17

set_option maxHeartbeats 4000000 in
set_option maxRecDepth 100000 in
theorem conX4_value (l : Launch) (D : va_G) (T : Nat → ClassId) (sz m0 : Nat) (th x1 x2 : Int32) : Met l yX4_value wsX4_value ({ frames := 2, cells := 0, slots := 0, locals := 42 }) (cP D T [.ref m0, .int x1, .int x2] (fun H => H.size = sz ∧ MF D T m0 th H)) (va_Qi (fun (r : Int32) (_ : Unit) => tw_value x1 x2 = nI 0 → r = nI 0) (fun _ t => MT D m0 (tw_value x1 x2) t.heap) (MA m0 sz)) 0 0 (MA m0 sz) := by
  refine Met.ofW (cc := cX4_value) (maxL := 3) (ret := (some .int)) (by decide) rfl ?_
  intro p e s m args below meth c s₁ B hml hv9
  obtain ⟨rfl, hK, hsz, hw⟩ := hv9
  have hx := B.exec
  have hb := B.bytes
  have hr := B.returns
  have hts := atoms_spec (ws := wsX4_value) B.pre
  have hown : s.vm.findClass RX4 = some m.cls := findClass_of_methodNamed B.named
  have hlocks := B.notSynchronized
  have hin4 : ∀ w ∈ wsX40, w ∈ wsX4_value := by decide +kernel
  generalize hAe : (MA m0 sz) = A
  have hA : ∀ q : Nat, ((m0 ≤ q ∧ q < m0 + 16) ∨ s.heap.size ≤ q) → A q := fun q h9 => by subst hAe; show (m0 ≤ q ∧ q < m0 + 16) ∨ sz ≤ q; omega
  have hS : va_S A s.heap s.heap [] := va_S.rf
  have hl := lv_entry ([.ref m0, .int x1, .int x2]) (n := 3) (Nat.le_of_ble_eq_true rfl)
  rw [lg_entry_eq]
  generalize (lg_sl ([.ref m0, .int x1, .int x2]) ++ List.replicate (3 - (lg_sl ([.ref m0, .int x1, .int x2])).length) Slot.unset).toArray = ls at hl ⊢
  have hl : lv_has ls 3 [(0, .ref m0), (1, .int x1), (2, .int x2)] := hl
  refine lv_aload_n hx hb dX4_value_0 rfl (lv_at hl 0 rfl) ?_
  refine lv_iconst (v := nI 0) hx hb dX4_value_1 (by decide) ?_
  refine q_put (v := .int (nI 0)) hx hb hts hin4 tyX4 tyX4_ok nmX4 hown hK hw.o rfl 0 (by decide) (hts (.fieldLink RX4 19 "PuddingstoneLineModel" "thrown" "I") (by decide +kernel)) (fun _ h9 => h9) rfl rfl rfl (Nat.le_of_ble_eq_true rfl) hS (hA _ (by omega)) dX4_value_2 (fun H1 locs1 hw9 oq hS => ?_)
  replace hw := hw.setO hw9 oq
  refine lv_iload_n hx hb dX4_value_5 rfl (lv_at hl 1 rfl) ?_
  refine vp_callSi (va_runS (As := [.int x1]) (rest := []) ⟨hx, hb, hml, hown, hts⟩ (conX4_isFunction l D T x1) (va_cwS 1 hts gX4_value_X4_isFunction rfl rfl rfl (by decide +kernel) ⟨Nat.le_of_ble_eq_true rfl, Nat.le_of_ble_eq_true rfl⟩) (preS hK trivial) rfl rfl hl.1 rfl (lv_room (Nat.le_of_ble_eq_true rfl)) dX4_value_6 ⟨Nat.le_of_ble_eq_true rfl, Nat.le_of_ble_eq_true rfl⟩).run (fun r1 hr1 => ?_)
  rw [hr1]
  refine lv_if_eq (tgt := 34) hx hb dX4_value_9 (by decide) (fun c9 => ?_) (fun c9 => ?_)
  · skip
    refine lv_aload_n hx hb dX4_value_34 rfl (lv_at hl 0 rfl) ?_
    refine lv_iconst (v := nI 1) hx hb dX4_value_35 (by decide) ?_
    refine va_calli (va_runV (As := [.int (nI 1)]) (rest := []) ⟨hx, hb, hml, hown, hts⟩ (conX4_no l D T m0 (nI 0) (nI 1) (.ref (m0 + 1)) (.ref (m0 + 10))) (cwV 1 hts gX4_value_X4_no rfl rfl rfl (by decide +kernel) ⟨Nat.le_of_ble_eq_true rfl, Nat.le_of_ble_eq_true rfl⟩) (preV hK hw.o rfl hw.o) rfl rfl hl.1 rfl (lv_room (Nat.le_of_ble_eq_true rfl)) dX4_value_36 ⟨Nat.le_of_ble_eq_true rfl, Nat.le_of_ble_eq_true rfl⟩) hS (fun q _ h9 => (hA q (by have h8 : q = m0 := h9; omega))) (fun q h9 => (hA q (by have h8 : q = m0 := h9; omega))) (fun r u t H1 locs1 ht hvm hw9 hB hz1 hk1 hS => ?_)
    try dsimp only at hB
    rw [ht] at hB
    rw [hw9]
    replace hw := hw.setK hB hk1
    have ht9 : tw_value x1 x2 = nI 1 := by unfold tw_value; rw [if_pos c9]
    exact W.iret (v := nI 0) hx hb hr (fun t ht _ => ⟨⟨nI 0, (), rfl, by exact fun h9 => absurd (ht9.symm.trans h9) (by decide), by dsimp only; rw [ht]; exact (by rw [ht9]; exact ⟨_, _, hw.o⟩)⟩, hS.F ht⟩) hS.2.2 dX4_value_39
  · skip
    obtain ⟨k1, hk1, rfl⟩ := inM_ok (n := 4) (by decide) c9
    refine lv_iload_n hx hb dX4_value_12 rfl (lv_at hl 2 rfl) ?_
    refine lv_iconst (v := nI 0) hx hb dX4_value_13 (by decide) ?_
    refine lv_sipush (v := nI 200) hx hb dX4_value_14 (by decide) ?_
    refine vp_callSi (va_runS (As := [.int x2, .int (nI 0), .int (nI 200)]) (rest := []) ⟨hx, hb, hml, hown, hts⟩ (conX4_isIn l D T x2 (nI 0) (nI 200)) (va_cwS 3 hts gX4_value_X4_isIn rfl rfl rfl (by decide +kernel) ⟨Nat.le_of_ble_eq_true rfl, Nat.le_of_ble_eq_true rfl⟩) (preS hK trivial) rfl rfl hl.1 rfl (lv_room (Nat.le_of_ble_eq_true rfl)) dX4_value_17 ⟨Nat.le_of_ble_eq_true rfl, Nat.le_of_ble_eq_true rfl⟩).run (fun r2 hr2 => ?_)
    rw [hr2]
    refine lv_if_eq (tgt := 34) hx hb dX4_value_20 (by decide) (fun c20 => ?_) (fun c20 => ?_)
    · skip
      refine lv_aload_n hx hb dX4_value_34 rfl (lv_at hl 0 rfl) ?_
      refine lv_iconst (v := nI 1) hx hb dX4_value_35 (by decide) ?_
      refine va_calli (va_runV (As := [.int (nI 1)]) (rest := []) ⟨hx, hb, hml, hown, hts⟩ (conX4_no l D T m0 (nI 0) (nI 1) (.ref (m0 + 1)) (.ref (m0 + 10))) (cwV 1 hts gX4_value_X4_no rfl rfl rfl (by decide +kernel) ⟨Nat.le_of_ble_eq_true rfl, Nat.le_of_ble_eq_true rfl⟩) (preV hK hw.o rfl hw.o) rfl rfl hl.1 rfl (lv_room (Nat.le_of_ble_eq_true rfl)) dX4_value_36 ⟨Nat.le_of_ble_eq_true rfl, Nat.le_of_ble_eq_true rfl⟩) hS (fun q _ h9 => (hA q (by have h8 : q = m0 := h9; omega))) (fun q h9 => (hA q (by have h8 : q = m0 := h9; omega))) (fun r u t H1 locs1 ht hvm hw9 hB hz1 hk1 hS => ?_)
      try dsimp only at hB
      rw [ht] at hB
      rw [hw9]
      replace hw := hw.setK hB hk1
      have ht9 : tw_value (nI k1) x2 = nI 1 := by unfold tw_value; rw [if_neg c9, if_pos c20]
      exact W.iret (v := nI 0) hx hb hr (fun t ht _ => ⟨⟨nI 0, (), rfl, by exact fun h9 => absurd (ht9.symm.trans h9) (by decide), by dsimp only; rw [ht]; exact (by rw [ht9]; exact ⟨_, _, hw.o⟩)⟩, hS.F ht⟩) hS.2.2 dX4_value_39
    · skip
      obtain ⟨k2, hk2, rfl⟩ := inM_ok (n := 200) (by decide) c20
      refine lv_aload_n hx hb dX4_value_23 rfl (lv_at hl 0 rfl) ?_
      refine q_get (v := .ref (m0 + 10)) hx hb hts hin4 hown hK hw.o rfl 2 (by decide) (hts (.fieldLink RX4 16 "PuddingstoneLineModel" "values" "[[I") (by decide +kernel)) (fun _ h9 => h9) rfl dX4_value_24 ?_
      refine lv_iload_n hx hb dX4_value_27 rfl (lv_at hl 1 rfl) ?_
      refine q_aald hx hb hK 5 rfl rfl hw.v k1 (rfl) (by omega) (by decide) (b := m0 + 11 + k1) rfl dX4_value_28 ?_
      refine lv_iload_n hx hb dX4_value_29 rfl (lv_at hl 2 rfl) ?_
      refine q_iald hx hb hK (hw.g k1 (by omega)) k2 (rfl) (by omega) (by decide) dX4_value_30 ?_
      refine W.eq (g2 := F0 m 31 ls [.int (nI 0)]) rfl ?_
      refine lv_goto (tgt := 39) hx hb dX4_value_31 (by decide) ?_
      have ht9 : tw_value (nI k1) (nI k2) = nI 0 := by unfold tw_value; rw [if_neg c9, if_neg c20]
      exact W.iret (v := nI 0) hx hb hr (fun t ht _ => ⟨⟨nI 0, (), rfl, by intro _; rfl, by dsimp only; rw [ht]; exact (by rw [ht9]; exact ⟨_, _, hw.o⟩)⟩, hS.F ht⟩) hS.2.2 dX4_value_39

set_option maxHeartbeats 4000000 in
set_option maxRecDepth 100000 in
theorem conX4_area (l : Launch) (D : va_G) (T : Nat → ClassId) (sz m0 : Nat) (th x1 x2 : Int32) : Met l yX4_area wsX4_area ({ frames := 2, cells := 0, slots := 0, locals := 42 }) (cP D T [.ref m0, .int x1, .int x2] (fun H => H.size = sz ∧ MF D T m0 th H)) (va_Qi (fun (r : Int32) (_ : Unit) => tw_area x1 x2 = nI 0 → r = nI 0) (fun _ t => MT D m0 (tw_area x1 x2) t.heap) (MA m0 sz)) 0 0 (MA m0 sz) := by
  refine Met.ofW (cc := cX4_area) (maxL := 3) (ret := (some .int)) (by decide) rfl ?_
  intro p e s m args below meth c s₁ B hml hv9
  obtain ⟨rfl, hK, hsz, hw⟩ := hv9
  have hx := B.exec
  have hb := B.bytes
  have hr := B.returns
  have hts := atoms_spec (ws := wsX4_area) B.pre
  have hown : s.vm.findClass RX4 = some m.cls := findClass_of_methodNamed B.named
  have hlocks := B.notSynchronized
  have hin4 : ∀ w ∈ wsX40, w ∈ wsX4_area := by decide +kernel
  generalize hAe : (MA m0 sz) = A
  have hA : ∀ q : Nat, ((m0 ≤ q ∧ q < m0 + 16) ∨ s.heap.size ≤ q) → A q := fun q h9 => by subst hAe; show (m0 ≤ q ∧ q < m0 + 16) ∨ sz ≤ q; omega
  have hS : va_S A s.heap s.heap [] := va_S.rf
  have hl := lv_entry ([.ref m0, .int x1, .int x2]) (n := 3) (Nat.le_of_ble_eq_true rfl)
  rw [lg_entry_eq]
  generalize (lg_sl ([.ref m0, .int x1, .int x2]) ++ List.replicate (3 - (lg_sl ([.ref m0, .int x1, .int x2])).length) Slot.unset).toArray = ls at hl ⊢
  have hl : lv_has ls 3 [(0, .ref m0), (1, .int x1), (2, .int x2)] := hl
  refine lv_aload_n hx hb dX4_area_0 rfl (lv_at hl 0 rfl) ?_
  refine lv_iconst (v := nI 0) hx hb dX4_area_1 (by decide) ?_
  refine q_put (v := .int (nI 0)) hx hb hts hin4 tyX4 tyX4_ok nmX4 hown hK hw.o rfl 0 (by decide) (hts (.fieldLink RX4 19 "PuddingstoneLineModel" "thrown" "I") (by decide +kernel)) (fun _ h9 => h9) rfl rfl rfl (Nat.le_of_ble_eq_true rfl) hS (hA _ (by omega)) dX4_area_2 (fun H1 locs1 hw9 oq hS => ?_)
  replace hw := hw.setO hw9 oq
  refine lv_iload_n hx hb dX4_area_5 rfl (lv_at hl 1 rfl) ?_
  refine vp_callSi (va_runS (As := [.int x1]) (rest := []) ⟨hx, hb, hml, hown, hts⟩ (conX4_isFunction l D T x1) (va_cwS 1 hts gX4_area_X4_isFunction rfl rfl rfl (by decide +kernel) ⟨Nat.le_of_ble_eq_true rfl, Nat.le_of_ble_eq_true rfl⟩) (preS hK trivial) rfl rfl hl.1 rfl (lv_room (Nat.le_of_ble_eq_true rfl)) dX4_area_6 ⟨Nat.le_of_ble_eq_true rfl, Nat.le_of_ble_eq_true rfl⟩).run (fun r1 hr1 => ?_)
  rw [hr1]
  refine lv_if_eq (tgt := 28) hx hb dX4_area_9 (by decide) (fun c9 => ?_) (fun c9 => ?_)
  · skip
    refine lv_aload_n hx hb dX4_area_28 rfl (lv_at hl 0 rfl) ?_
    refine lv_iconst (v := nI 1) hx hb dX4_area_29 (by decide) ?_
    refine va_calli (va_runV (As := [.int (nI 1)]) (rest := []) ⟨hx, hb, hml, hown, hts⟩ (conX4_no l D T m0 (nI 0) (nI 1) (.ref (m0 + 1)) (.ref (m0 + 10))) (cwV 1 hts gX4_area_X4_no rfl rfl rfl (by decide +kernel) ⟨Nat.le_of_ble_eq_true rfl, Nat.le_of_ble_eq_true rfl⟩) (preV hK hw.o rfl hw.o) rfl rfl hl.1 rfl (lv_room (Nat.le_of_ble_eq_true rfl)) dX4_area_30 ⟨Nat.le_of_ble_eq_true rfl, Nat.le_of_ble_eq_true rfl⟩) hS (fun q _ h9 => (hA q (by have h8 : q = m0 := h9; omega))) (fun q h9 => (hA q (by have h8 : q = m0 := h9; omega))) (fun r u t H1 locs1 ht hvm hw9 hB hz1 hk1 hS => ?_)
    try dsimp only at hB
    rw [ht] at hB
    rw [hw9]
    replace hw := hw.setK hB hk1
    have ht9 : tw_area x1 x2 = nI 1 := by unfold tw_area; rw [if_pos c9]
    exact W.iret (v := nI 0) hx hb hr (fun t ht _ => ⟨⟨nI 0, (), rfl, by exact fun h9 => absurd (ht9.symm.trans h9) (by decide), by dsimp only; rw [ht]; exact (by rw [ht9]; exact ⟨_, _, hw.o⟩)⟩, hS.F ht⟩) hS.2.2 dX4_area_33
  · skip
    obtain ⟨k1, hk1, rfl⟩ := inM_ok (n := 4) (by decide) c9
    refine lv_iload_n hx hb dX4_area_12 rfl (lv_at hl 2 rfl) ?_
    refine vp_callSi (va_runS (As := [.int x2]) (rest := []) ⟨hx, hb, hml, hown, hts⟩ (conX4_isSet l D T x2) (va_cwS 1 hts gX4_area_X4_isSet rfl rfl rfl (by decide +kernel) ⟨Nat.le_of_ble_eq_true rfl, Nat.le_of_ble_eq_true rfl⟩) (preS hK trivial) rfl rfl hl.1 rfl (lv_room (Nat.le_of_ble_eq_true rfl)) dX4_area_13 ⟨Nat.le_of_ble_eq_true rfl, Nat.le_of_ble_eq_true rfl⟩).run (fun r2 hr2 => ?_)
    rw [hr2]
    refine lv_if_eq (tgt := 28) hx hb dX4_area_16 (by decide) (fun c16 => ?_) (fun c16 => ?_)
    · skip
      refine lv_aload_n hx hb dX4_area_28 rfl (lv_at hl 0 rfl) ?_
      refine lv_iconst (v := nI 1) hx hb dX4_area_29 (by decide) ?_
      refine va_calli (va_runV (As := [.int (nI 1)]) (rest := []) ⟨hx, hb, hml, hown, hts⟩ (conX4_no l D T m0 (nI 0) (nI 1) (.ref (m0 + 1)) (.ref (m0 + 10))) (cwV 1 hts gX4_area_X4_no rfl rfl rfl (by decide +kernel) ⟨Nat.le_of_ble_eq_true rfl, Nat.le_of_ble_eq_true rfl⟩) (preV hK hw.o rfl hw.o) rfl rfl hl.1 rfl (lv_room (Nat.le_of_ble_eq_true rfl)) dX4_area_30 ⟨Nat.le_of_ble_eq_true rfl, Nat.le_of_ble_eq_true rfl⟩) hS (fun q _ h9 => (hA q (by have h8 : q = m0 := h9; omega))) (fun q h9 => (hA q (by have h8 : q = m0 := h9; omega))) (fun r u t H1 locs1 ht hvm hw9 hB hz1 hk1 hS => ?_)
      try dsimp only at hB
      rw [ht] at hB
      rw [hw9]
      replace hw := hw.setK hB hk1
      have ht9 : tw_area (nI k1) x2 = nI 1 := by unfold tw_area; rw [if_neg c9, if_pos c16]
      exact W.iret (v := nI 0) hx hb hr (fun t ht _ => ⟨⟨nI 0, (), rfl, by exact fun h9 => absurd (ht9.symm.trans h9) (by decide), by dsimp only; rw [ht]; exact (by rw [ht9]; exact ⟨_, _, hw.o⟩)⟩, hS.F ht⟩) hS.2.2 dX4_area_33
    · skip
      obtain ⟨k2, hk2, rfl⟩ := inM_ok (n := 7) (by decide) c16
      refine lv_aload_n hx hb dX4_area_19 rfl (lv_at hl 0 rfl) ?_
      refine lv_iload_n hx hb dX4_area_20 rfl (lv_at hl 1 rfl) ?_
      refine lv_iload_n hx hb dX4_area_21 rfl (lv_at hl 2 rfl) ?_
      refine vp_callSi (va_runV (As := [.int (nI k1), .int (nI k2)]) (rest := []) ⟨hx, hb, hml, hown, hts⟩ (conX4_areaNow l D T m0 (nI 0) k1 k2 (by omega) (by omega)) (cwV 2 hts gX4_area_X4_areaNow rfl rfl rfl (by decide +kernel) ⟨Nat.le_of_ble_eq_true rfl, Nat.le_of_ble_eq_true rfl⟩) (preV hK hw.o rfl hw) rfl rfl hl.1 rfl (lv_room (Nat.le_of_ble_eq_true rfl)) dX4_area_22 ⟨Nat.le_of_ble_eq_true rfl, Nat.le_of_ble_eq_true rfl⟩).run (fun r3 hr3 => ?_)
      rw [hr3]
      refine lv_goto (tgt := 33) hx hb dX4_area_25 (by decide) ?_
      have ht9 : tw_area (nI k1) (nI k2) = nI 0 := by unfold tw_area; rw [if_neg c9, if_neg c16]
      exact W.iret (v := nI 0) hx hb hr (fun t ht _ => ⟨⟨nI 0, (), rfl, by intro _; rfl, by dsimp only; rw [ht]; exact (by rw [ht9]; exact ⟨_, _, hw.o⟩)⟩, hS.F ht⟩) hS.2.2 dX4_area_33

set_option maxHeartbeats 4000000 in
set_option maxRecDepth 100000 in
theorem conX4_mean (l : Launch) (D : va_G) (T : Nat → ClassId) (sz m0 : Nat) (th x1 x2 : Int32) : Met l yX4_mean wsX4_mean ({ frames := 2, cells := 0, slots := 0, locals := 42 }) (cP D T [.ref m0, .int x1, .int x2] (fun H => H.size = sz ∧ MF D T m0 th H)) (va_Qd (fun (r : UInt64) (_ : Unit) => tw_mean x1 x2 = nI 0 → r = FP.dconst0) (fun _ t => MT D m0 (tw_mean x1 x2) t.heap) (MA m0 sz)) 0 0 (MA m0 sz) := by
  refine Met.ofW (cc := cX4_mean) (maxL := 3) (ret := (some .double)) (by decide) rfl ?_
  intro p e s m args below meth c s₁ B hml hv9
  obtain ⟨rfl, hK, hsz, hw⟩ := hv9
  have hx := B.exec
  have hb := B.bytes
  have hr := B.returns
  have hts := atoms_spec (ws := wsX4_mean) B.pre
  have hown : s.vm.findClass RX4 = some m.cls := findClass_of_methodNamed B.named
  have hlocks := B.notSynchronized
  have hin4 : ∀ w ∈ wsX40, w ∈ wsX4_mean := by decide +kernel
  generalize hAe : (MA m0 sz) = A
  have hA : ∀ q : Nat, ((m0 ≤ q ∧ q < m0 + 16) ∨ s.heap.size ≤ q) → A q := fun q h9 => by subst hAe; show (m0 ≤ q ∧ q < m0 + 16) ∨ sz ≤ q; omega
  have hS : va_S A s.heap s.heap [] := va_S.rf
  have hl := lv_entry ([.ref m0, .int x1, .int x2]) (n := 3) (Nat.le_of_ble_eq_true rfl)
  rw [lg_entry_eq]
  generalize (lg_sl ([.ref m0, .int x1, .int x2]) ++ List.replicate (3 - (lg_sl ([.ref m0, .int x1, .int x2])).length) Slot.unset).toArray = ls at hl ⊢
  have hl : lv_has ls 3 [(0, .ref m0), (1, .int x1), (2, .int x2)] := hl
  refine lv_aload_n hx hb dX4_mean_0 rfl (lv_at hl 0 rfl) ?_
  refine lv_iload_n hx hb dX4_mean_1 rfl (lv_at hl 1 rfl) ?_
  refine vp_callSi (va_runS (As := [.int x1]) (rest := [.ref m0]) ⟨hx, hb, hml, hown, hts⟩ (conX4_isFunction l D T x1) (va_cwS 1 hts gX4_mean_X4_isFunction rfl rfl rfl (by decide +kernel) ⟨Nat.le_of_ble_eq_true rfl, Nat.le_of_ble_eq_true rfl⟩) (preS hK trivial) rfl rfl hl.1 rfl (lv_room (Nat.le_of_ble_eq_true rfl)) dX4_mean_2 ⟨Nat.le_of_ble_eq_true rfl, Nat.le_of_ble_eq_true rfl⟩).run (fun r1 hr1 => ?_)
  rw [hr1]
  refine lv_if_eq (tgt := 19) hx hb dX4_mean_5 (by decide) (fun c5 => ?_) (fun c5 => ?_)
  · skip
    refine lv_iconst (v := nI 1) hx hb dX4_mean_19 (by decide) ?_
    refine q_put (v := .int (nI 1)) hx hb hts hin4 tyX4 tyX4_ok nmX4 hown hK hw.o rfl 0 (by decide) (hts (.fieldLink RX4 19 "PuddingstoneLineModel" "thrown" "I") (by decide +kernel)) (fun _ h9 => h9) rfl rfl rfl (Nat.le_of_ble_eq_true rfl) hS (hA _ (by omega)) dX4_mean_20 (fun H1 locs1 hw9 oq hS => ?_)
    replace hw := hw.setO hw9 oq
    refine lv_aload_n hx hb dX4_mean_23 rfl (lv_at hl 0 rfl) ?_
    refine q_get (v := .int (nI 1)) hx hb hts hin4 hown hK hw.o rfl 0 (by decide) (hts (.fieldLink RX4 19 "PuddingstoneLineModel" "thrown" "I") (by decide +kernel)) (fun _ h9 => h9) rfl dX4_mean_24 ?_
    refine lv_if_ne (tgt := 42) hx hb dX4_mean_27 (by decide) (fun c27 => ?_) (fun c27 => ?_)
    · skip
      have c27 : ¬ (1 = 0) := fun q9 => c27 ((nc_eq (a := 1) (b := 0) (by omega) (by omega)).mpr q9)
      refine lv_dconst0 hx hb dX4_mean_42 ?_
      refine lv_goto (tgt := 64) hx hb dX4_mean_43 (by decide) ?_
      have ht9 : tw_mean x1 x2 = nI 1 := by unfold tw_mean; rw [if_pos c5]
      exact W.dret (v := FP.dconst0) hx hb hr (fun t ht _ => ⟨⟨FP.dconst0, (), rfl, by exact fun h9 => absurd (ht9.symm.trans h9) (by decide), by dsimp only; rw [ht]; exact (by rw [ht9]; exact ⟨_, _, hw.o⟩)⟩, hS.F ht⟩) hS.2.2 dX4_mean_64
    · skip
      have c27 : 1 = 0 := (nc_eq (a := 1) (b := 0) (by omega) (by omega)).mp c27
      omega
  · skip
    obtain ⟨k1, hk1, rfl⟩ := inM_ok (n := 4) (by decide) c5
    refine lv_iload_n hx hb dX4_mean_8 rfl (lv_at hl 2 rfl) ?_
    refine vp_callSi (va_runS (As := [.int x2]) (rest := [.ref m0]) ⟨hx, hb, hml, hown, hts⟩ (conX4_isSet l D T x2) (va_cwS 1 hts gX4_mean_X4_isSet rfl rfl rfl (by decide +kernel) ⟨Nat.le_of_ble_eq_true rfl, Nat.le_of_ble_eq_true rfl⟩) (preS hK trivial) rfl rfl hl.1 rfl (lv_room (Nat.le_of_ble_eq_true rfl)) dX4_mean_9 ⟨Nat.le_of_ble_eq_true rfl, Nat.le_of_ble_eq_true rfl⟩).run (fun r2 hr2 => ?_)
    rw [hr2]
    refine lv_if_eq (tgt := 19) hx hb dX4_mean_12 (by decide) (fun c12 => ?_) (fun c12 => ?_)
    · skip
      refine lv_iconst (v := nI 1) hx hb dX4_mean_19 (by decide) ?_
      refine q_put (v := .int (nI 1)) hx hb hts hin4 tyX4 tyX4_ok nmX4 hown hK hw.o rfl 0 (by decide) (hts (.fieldLink RX4 19 "PuddingstoneLineModel" "thrown" "I") (by decide +kernel)) (fun _ h9 => h9) rfl rfl rfl (Nat.le_of_ble_eq_true rfl) hS (hA _ (by omega)) dX4_mean_20 (fun H1 locs1 hw9 oq hS => ?_)
      replace hw := hw.setO hw9 oq
      refine lv_aload_n hx hb dX4_mean_23 rfl (lv_at hl 0 rfl) ?_
      refine q_get (v := .int (nI 1)) hx hb hts hin4 hown hK hw.o rfl 0 (by decide) (hts (.fieldLink RX4 19 "PuddingstoneLineModel" "thrown" "I") (by decide +kernel)) (fun _ h9 => h9) rfl dX4_mean_24 ?_
      refine lv_if_ne (tgt := 42) hx hb dX4_mean_27 (by decide) (fun c27 => ?_) (fun c27 => ?_)
      · skip
        have c27 : ¬ (1 = 0) := fun q9 => c27 ((nc_eq (a := 1) (b := 0) (by omega) (by omega)).mpr q9)
        refine lv_dconst0 hx hb dX4_mean_42 ?_
        refine lv_goto (tgt := 64) hx hb dX4_mean_43 (by decide) ?_
        have ht9 : tw_mean (nI k1) x2 = nI 1 := by unfold tw_mean; rw [if_neg c5, if_pos c12]
        exact W.dret (v := FP.dconst0) hx hb hr (fun t ht _ => ⟨⟨FP.dconst0, (), rfl, by exact fun h9 => absurd (ht9.symm.trans h9) (by decide), by dsimp only; rw [ht]; exact (by rw [ht9]; exact ⟨_, _, hw.o⟩)⟩, hS.F ht⟩) hS.2.2 dX4_mean_64
      · skip
        have c27 : 1 = 0 := (nc_eq (a := 1) (b := 0) (by omega) (by omega)).mp c27
        omega
    · skip
      obtain ⟨k2, hk2, rfl⟩ := inM_ok (n := 7) (by decide) c12
      refine lv_iconst (v := nI 0) hx hb dX4_mean_15 (by decide) ?_
      refine lv_goto (tgt := 20) hx hb dX4_mean_16 (by decide) ?_
      refine q_put (v := .int (nI 0)) hx hb hts hin4 tyX4 tyX4_ok nmX4 hown hK hw.o rfl 0 (by decide) (hts (.fieldLink RX4 19 "PuddingstoneLineModel" "thrown" "I") (by decide +kernel)) (fun _ h9 => h9) rfl rfl rfl (Nat.le_of_ble_eq_true rfl) hS (hA _ (by omega)) dX4_mean_20 (fun H1 locs1 hw9 oq hS => ?_)
      replace hw := hw.setO hw9 oq
      refine lv_aload_n hx hb dX4_mean_23 rfl (lv_at hl 0 rfl) ?_
      refine q_get (v := .int (nI 0)) hx hb hts hin4 hown hK hw.o rfl 0 (by decide) (hts (.fieldLink RX4 19 "PuddingstoneLineModel" "thrown" "I") (by decide +kernel)) (fun _ h9 => h9) rfl dX4_mean_24 ?_
      refine lv_if_ne (tgt := 42) hx hb dX4_mean_27 (by decide) (fun c27 => ?_) (fun c27 => ?_)
      · skip
        have c27 : ¬ (0 = 0) := fun q9 => c27 ((nc_eq (a := 0) (b := 0) (by omega) (by omega)).mpr q9)
        omega
      · skip
        have c27 : 0 = 0 := (nc_eq (a := 0) (b := 0) (by omega) (by omega)).mp c27
        refine lv_aload_n hx hb dX4_mean_30 rfl (lv_at hl 0 rfl) ?_
        refine q_get (v := .ref (m0 + 1)) hx hb hts hin4 hown hK hw.o rfl 1 (by decide) (hts (.fieldLink RX4 11 "PuddingstoneLineModel" "sets" "[[Z") (by decide +kernel)) (fun _ h9 => h9) rfl dX4_mean_31 ?_
        refine lv_iload_n hx hb dX4_mean_34 rfl (lv_at hl 2 rfl) ?_
        refine q_aald hx hb hK 4 rfl rfl hw.s k2 (rfl) (by omega) (by decide) (b := m0 + 2 + k2) rfl dX4_mean_35 ?_
        refine vp_callSi (va_runS (As := [.ref (m0 + 2 + k2)]) (rest := []) ⟨hx, hb, hml, hown, hts⟩ (conX4_longOf_ l D T (m0 + 2 + k2)) (va_cwS 1 hts gX4_mean_X4_longOf_ rfl rfl rfl (by decide +kernel) ⟨Nat.le_of_ble_eq_true rfl, Nat.le_of_ble_eq_true rfl⟩) (preS hK ((hw.f k2 (by omega)))) rfl rfl hl.1 rfl (lv_room (Nat.le_of_ble_eq_true rfl)) dX4_mean_36 ⟨Nat.le_of_ble_eq_true rfl, Nat.le_of_ble_eq_true rfl⟩).run (fun r3 hr3 => ?_)
        rw [hr3]
        refine lv_if_ne (tgt := 46) hx hb dX4_mean_39 (by decide) (fun c39 => ?_) (fun c39 => ?_)
        · skip
          have c39 : ¬ (0 = 0) := fun q9 => c39 ((nc_eq (a := 0) (b := 0) (by omega) (by omega)).mpr q9)
          omega
        · skip
          have c39 : 0 = 0 := (nc_eq (a := 0) (b := 0) (by omega) (by omega)).mp c39
          refine lv_dconst0 hx hb dX4_mean_42 ?_
          refine lv_goto (tgt := 64) hx hb dX4_mean_43 (by decide) ?_
          have ht9 : tw_mean (nI k1) (nI k2) = nI 0 := by unfold tw_mean; rw [if_neg c5, if_neg c12]
          exact W.dret (v := FP.dconst0) hx hb hr (fun t ht _ => ⟨⟨FP.dconst0, (), rfl, by intro _; rfl, by dsimp only; rw [ht]; exact (by rw [ht9]; exact ⟨_, _, hw.o⟩)⟩, hS.F ht⟩) hS.2.2 dX4_mean_64

set_option maxHeartbeats 4000000 in
set_option maxRecDepth 100000 in
theorem conX4_thicker (l : Launch) (D : va_G) (T : Nat → ClassId) (sz m0 : Nat) (th x1 x2 : Int32) : Met l yX4_thicker wsX4_thicker ({ frames := 2, cells := 0, slots := 0, locals := 48 }) (cP D T [.ref m0, .int x1, .int x2] (fun H => H.size = sz ∧ MF D T m0 th H)) (va_Qi (fun (r : Int32) (_ : Unit) => tw_thicker x1 x2 = nI 0 → r = thkM x2 201) (fun _ t => MT D m0 (tw_thicker x1 x2) t.heap) (MA m0 sz)) 0 0 (MA m0 sz) := by
  refine Met.ofW (cc := cX4_thicker) (maxL := 3) (ret := (some .int)) (by decide) rfl ?_
  intro p e s m args below meth c s₁ B hml hv9
  obtain ⟨rfl, hK, hsz, hw⟩ := hv9
  have hx := B.exec
  have hb := B.bytes
  have hr := B.returns
  have hts := atoms_spec (ws := wsX4_thicker) B.pre
  have hown : s.vm.findClass RX4 = some m.cls := findClass_of_methodNamed B.named
  have hlocks := B.notSynchronized
  have hin4 : ∀ w ∈ wsX40, w ∈ wsX4_thicker := by decide +kernel
  generalize hAe : (MA m0 sz) = A
  have hA : ∀ q : Nat, ((m0 ≤ q ∧ q < m0 + 16) ∨ s.heap.size ≤ q) → A q := fun q h9 => by subst hAe; show (m0 ≤ q ∧ q < m0 + 16) ∨ sz ≤ q; omega
  have hS : va_S A s.heap s.heap [] := va_S.rf
  have hl := lv_entry ([.ref m0, .int x1, .int x2]) (n := 3) (Nat.le_of_ble_eq_true rfl)
  rw [lg_entry_eq]
  generalize (lg_sl ([.ref m0, .int x1, .int x2]) ++ List.replicate (3 - (lg_sl ([.ref m0, .int x1, .int x2])).length) Slot.unset).toArray = ls at hl ⊢
  have hl : lv_has ls 3 [(0, .ref m0), (1, .int x1), (2, .int x2)] := hl
  refine lv_aload_n hx hb dX4_thicker_0 rfl (lv_at hl 0 rfl) ?_
  refine lv_iconst (v := nI 0) hx hb dX4_thicker_1 (by decide) ?_
  refine q_put (v := .int (nI 0)) hx hb hts hin4 tyX4 tyX4_ok nmX4 hown hK hw.o rfl 0 (by decide) (hts (.fieldLink RX4 19 "PuddingstoneLineModel" "thrown" "I") (by decide +kernel)) (fun _ h9 => h9) rfl rfl rfl (Nat.le_of_ble_eq_true rfl) hS (hA _ (by omega)) dX4_thicker_2 (fun H1 locs1 hw9 oq hS => ?_)
  replace hw := hw.setO hw9 oq
  refine lv_iload_n hx hb dX4_thicker_5 rfl (lv_at hl 1 rfl) ?_
  refine lv_iconst (v := nI 0) hx hb dX4_thicker_6 (by decide) ?_
  refine lv_sipush (v := nI 255) hx hb dX4_thicker_7 (by decide) ?_
  refine vp_callSi (va_runS (As := [.int x1, .int (nI 0), .int (nI 255)]) (rest := []) ⟨hx, hb, hml, hown, hts⟩ (conX4_isIn l D T x1 (nI 0) (nI 255)) (va_cwS 3 hts gX4_thicker_X4_isIn rfl rfl rfl (by decide +kernel) ⟨Nat.le_of_ble_eq_true rfl, Nat.le_of_ble_eq_true rfl⟩) (preS hK trivial) rfl rfl hl.1 rfl (lv_room (Nat.le_of_ble_eq_true rfl)) dX4_thicker_10 ⟨Nat.le_of_ble_eq_true rfl, Nat.le_of_ble_eq_true rfl⟩).run (fun r1 hr1 => ?_)
  rw [hr1]
  refine lv_if_eq (tgt := 25) hx hb dX4_thicker_13 (by decide) (fun c13 => ?_) (fun c13 => ?_)
  · skip
    refine lv_aload_n hx hb dX4_thicker_25 rfl (lv_at hl 0 rfl) ?_
    refine lv_iconst (v := nI 1) hx hb dX4_thicker_26 (by decide) ?_
    refine va_calli (va_runV (As := [.int (nI 1)]) (rest := []) ⟨hx, hb, hml, hown, hts⟩ (conX4_no l D T m0 (nI 0) (nI 1) (.ref (m0 + 1)) (.ref (m0 + 10))) (cwV 1 hts gX4_thicker_X4_no rfl rfl rfl (by decide +kernel) ⟨Nat.le_of_ble_eq_true rfl, Nat.le_of_ble_eq_true rfl⟩) (preV hK hw.o rfl hw.o) rfl rfl hl.1 rfl (lv_room (Nat.le_of_ble_eq_true rfl)) dX4_thicker_27 ⟨Nat.le_of_ble_eq_true rfl, Nat.le_of_ble_eq_true rfl⟩) hS (fun q _ h9 => (hA q (by have h8 : q = m0 := h9; omega))) (fun q h9 => (hA q (by have h8 : q = m0 := h9; omega))) (fun r u t H1 locs1 ht hvm hw9 hB hz1 hk1 hS => ?_)
    try dsimp only at hB
    rw [ht] at hB
    rw [hw9]
    replace hw := hw.setK hB hk1
    have ht9 : tw_thicker x1 x2 = nI 1 := by unfold tw_thicker; rw [if_pos c13]
    exact W.iret (v := nI 0) hx hb hr (fun t ht _ => ⟨⟨nI 0, (), rfl, by exact fun h9 => absurd (ht9.symm.trans h9) (by decide), by dsimp only; rw [ht]; exact (by rw [ht9]; exact ⟨_, _, hw.o⟩)⟩, hS.F ht⟩) hS.2.2 dX4_thicker_30
  · skip
    obtain ⟨k1, hk1, rfl⟩ := inM_ok (n := 255) (by decide) c13
    refine lv_aload_n hx hb dX4_thicker_16 rfl (lv_at hl 0 rfl) ?_
    refine lv_iload_n hx hb dX4_thicker_17 rfl (lv_at hl 1 rfl) ?_
    refine lv_iload_n hx hb dX4_thicker_18 rfl (lv_at hl 2 rfl) ?_
    refine vp_callSi (va_runV (As := [.int (nI k1), .int x2]) (rest := []) ⟨hx, hb, hml, hown, hts⟩ (conX4_thickerNow l D T m0 (nI 0) (nI k1) x2) (cwV 2 hts gX4_thicker_X4_thickerNow rfl rfl rfl (by decide +kernel) ⟨Nat.le_of_ble_eq_true rfl, Nat.le_of_ble_eq_true rfl⟩) (preV hK hw.o rfl hw) rfl rfl hl.1 rfl (lv_room (Nat.le_of_ble_eq_true rfl)) dX4_thicker_19 ⟨Nat.le_of_ble_eq_true rfl, Nat.le_of_ble_eq_true rfl⟩).run (fun r2 hr2 => ?_)
    rw [hr2]
    refine lv_goto (tgt := 30) hx hb dX4_thicker_22 (by decide) ?_
    have ht9 : tw_thicker (nI k1) x2 = nI 0 := by unfold tw_thicker; rw [if_neg c13]
    exact W.iret (v := thkM x2 201) hx hb hr (fun t ht _ => ⟨⟨thkM x2 201, (), rfl, by intro _; rfl, by dsimp only; rw [ht]; exact (by rw [ht9]; exact ⟨_, _, hw.o⟩)⟩, hS.F ht⟩) hS.2.2 dX4_thicker_30

set_option maxHeartbeats 4000000 in
set_option maxRecDepth 100000 in
theorem conX4_cover (l : Launch) (D : va_G) (T : Nat → ClassId) (sz m0 : Nat) (th x1 x2 : Int32) : Met l yX4_cover wsX4_cover ({ frames := 2, cells := 2, slots := 201, locals := 90 }) (cP D T [.ref m0, .int x1, .int x2] (fun H => H.size = sz ∧ MF D T m0 th H)) (va_Qi (fun (r : Int32) (_ : Unit) => tw_cover x1 x2 = nI 0 → r = nI 0) (fun _ t => MT D m0 (tw_cover x1 x2) t.heap) (MA m0 sz)) 2 201 (MA m0 sz) := by
  refine Met.ofW (cc := cX4_cover) (maxL := 3) (ret := (some .int)) (by decide) rfl ?_
  intro p e s m args below meth c s₁ B hml hv9
  obtain ⟨rfl, hK, hsz, hw⟩ := hv9
  have hx := B.exec
  have hb := B.bytes
  have hr := B.returns
  have hts := atoms_spec (ws := wsX4_cover) B.pre
  have hown : s.vm.findClass RX4 = some m.cls := findClass_of_methodNamed B.named
  have hlocks := B.notSynchronized
  have hin4 : ∀ w ∈ wsX40, w ∈ wsX4_cover := by decide +kernel
  generalize hAe : (MA m0 sz) = A
  have hA : ∀ q : Nat, ((m0 ≤ q ∧ q < m0 + 16) ∨ s.heap.size ≤ q) → A q := fun q h9 => by subst hAe; show (m0 ≤ q ∧ q < m0 + 16) ∨ sz ≤ q; omega
  have hS : va_S A s.heap s.heap [] := va_S.rf
  have hl := lv_entry ([.ref m0, .int x1, .int x2]) (n := 3) (Nat.le_of_ble_eq_true rfl)
  rw [lg_entry_eq]
  generalize (lg_sl ([.ref m0, .int x1, .int x2]) ++ List.replicate (3 - (lg_sl ([.ref m0, .int x1, .int x2])).length) Slot.unset).toArray = ls at hl ⊢
  have hl : lv_has ls 3 [(0, .ref m0), (1, .int x1), (2, .int x2)] := hl
  refine lv_aload_n hx hb dX4_cover_0 rfl (lv_at hl 0 rfl) ?_
  refine lv_iconst (v := nI 0) hx hb dX4_cover_1 (by decide) ?_
  refine q_put (v := .int (nI 0)) hx hb hts hin4 tyX4 tyX4_ok nmX4 hown hK hw.o rfl 0 (by decide) (hts (.fieldLink RX4 19 "PuddingstoneLineModel" "thrown" "I") (by decide +kernel)) (fun _ h9 => h9) rfl rfl rfl (Nat.le_of_ble_eq_true rfl) hS (hA _ (by omega)) dX4_cover_2 (fun H1 locs1 hw9 oq hS => ?_)
  replace hw := hw.setO hw9 oq
  refine lv_iload_n hx hb dX4_cover_5 rfl (lv_at hl 2 rfl) ?_
  refine vp_callSi (va_runS (As := [.int x2]) (rest := []) ⟨hx, hb, hml, hown, hts⟩ (conX4_isSet l D T x2) (va_cwS 1 hts gX4_cover_X4_isSet rfl rfl rfl (by decide +kernel) ⟨Nat.le_of_ble_eq_true rfl, Nat.le_of_ble_eq_true rfl⟩) (preS hK trivial) rfl rfl hl.1 rfl (lv_room (Nat.le_of_ble_eq_true rfl)) dX4_cover_6 ⟨Nat.le_of_ble_eq_true rfl, Nat.le_of_ble_eq_true rfl⟩).run (fun r1 hr1 => ?_)
  rw [hr1]
  refine lv_if_ne (tgt := 18) hx hb dX4_cover_9 (by decide) (fun c9 => ?_) (fun c9 => ?_)
  · skip
    obtain ⟨k2, hk2, rfl⟩ := inM_ok (n := 7) (by decide) c9
    refine lv_iload_n hx hb dX4_cover_18 rfl (lv_at hl 1 rfl) ?_
    refine lv_iconst (v := nI 0) hx hb dX4_cover_19 (by decide) ?_
    refine lv_sipush (v := nI 255) hx hb dX4_cover_20 (by decide) ?_
    refine vp_callSi (va_runS (As := [.int x1, .int (nI 0), .int (nI 255)]) (rest := []) ⟨hx, hb, hml, hown, hts⟩ (conX4_isIn l D T x1 (nI 0) (nI 255)) (va_cwS 3 hts gX4_cover_X4_isIn rfl rfl rfl (by decide +kernel) ⟨Nat.le_of_ble_eq_true rfl, Nat.le_of_ble_eq_true rfl⟩) (preS hK trivial) rfl rfl hl.1 rfl (lv_room (Nat.le_of_ble_eq_true rfl)) dX4_cover_23 ⟨Nat.le_of_ble_eq_true rfl, Nat.le_of_ble_eq_true rfl⟩).run (fun r2 hr2 => ?_)
    rw [hr2]
    refine lv_if_eq (tgt := 41) hx hb dX4_cover_26 (by decide) (fun c26 => ?_) (fun c26 => ?_)
    · skip
      refine lv_aload_n hx hb dX4_cover_41 rfl (lv_at hl 0 rfl) ?_
      refine lv_iconst (v := nI 2) hx hb dX4_cover_42 (by decide) ?_
      refine va_calli (va_runV (As := [.int (nI 2)]) (rest := []) ⟨hx, hb, hml, hown, hts⟩ (conX4_no l D T m0 (nI 0) (nI 2) (.ref (m0 + 1)) (.ref (m0 + 10))) (cwV 1 hts gX4_cover_X4_no rfl rfl rfl (by decide +kernel) ⟨Nat.le_of_ble_eq_true rfl, Nat.le_of_ble_eq_true rfl⟩) (preV hK hw.o rfl hw.o) rfl rfl hl.1 rfl (lv_room (Nat.le_of_ble_eq_true rfl)) dX4_cover_43 ⟨Nat.le_of_ble_eq_true rfl, Nat.le_of_ble_eq_true rfl⟩) hS (fun q _ h9 => (hA q (by have h8 : q = m0 := h9; omega))) (fun q h9 => (hA q (by have h8 : q = m0 := h9; omega))) (fun r u t H1 locs1 ht hvm hw9 hB hz1 hk1 hS => ?_)
      try dsimp only at hB
      rw [ht] at hB
      rw [hw9]
      replace hw := hw.setK hB hk1
      have ht9 : tw_cover x1 (nI k2) = nI 2 := by unfold tw_cover; rw [if_neg c9, if_pos c26]
      refine W.widen (k := 2) (n := 201) (by first | omega | decide) (by first | omega | decide) ?_
      exact W.iret (v := nI 0) hx hb hr (fun t ht _ => ⟨⟨nI 0, (), rfl, by exact fun h9 => absurd (ht9.symm.trans h9) (by decide), by dsimp only; rw [ht]; exact (by rw [ht9]; exact ⟨_, _, hw.o⟩)⟩, hS.F ht⟩) hS.2.2 dX4_cover_46
    · skip
      obtain ⟨k1, hk1, rfl⟩ := inM_ok (n := 255) (by decide) c26
      refine lv_aload_n hx hb dX4_cover_29 rfl (lv_at hl 0 rfl) ?_
      refine lv_iload_n hx hb dX4_cover_30 rfl (lv_at hl 1 rfl) ?_
      refine lv_iload_n hx hb dX4_cover_31 rfl (lv_at hl 2 rfl) ?_
      obtain ⟨b1, hb1⟩ : ∃ z : Nat, z = H1.size := ⟨_, rfl⟩
      have lw_b1 : m0 + 16 ≤ b1 := by have h8 := hw.lt; omega
      have ln_b1 : s.heap.size ≤ b1 := by have h8 := hS.1; omega
      refine va_callr (va_runV (As := [.int (nI k1), .int (nI k2)]) (rest := []) ⟨hx, hb, hml, hown, hts⟩ (conX4_coverNow l D T b1 m0 (nI 0) (nI k1) k2 (by omega)) (cwV 2 hts gX4_cover_X4_coverNow rfl rfl rfl (by decide +kernel) ⟨Nat.le_of_ble_eq_true rfl, Nat.le_of_ble_eq_true rfl⟩) (preV hK hw.o rfl ⟨hb1.symm, hw⟩) rfl rfl hl.1 rfl (lv_room (Nat.le_of_ble_eq_true rfl)) dX4_cover_32 ⟨Nat.le_of_ble_eq_true rfl, Nat.le_of_ble_eq_true rfl⟩) hS (fun q _ h9 => (hA q (by have h8 : b1 ≤ q := h9; omega))) (fun q h9 => (hA q (by have h8 : b1 ≤ q := h9; omega))) (fun u ra t H1 locs1 ht hvm hw9 hB hz1 hk1 hS => ?_)
      try dsimp only at hB
      rw [ht] at hB
      obtain ⟨a3, rfl⟩ : ∃ z, z = ra := ⟨_, rfl⟩
      obtain ⟨hz_a3, na3⟩ := hB
      replace hw := hw.kept hk1 (fun q h7 h8 (h9 : b1 ≤ q) => by omega)
      refine vp_callSi (va_runS (As := [.ref a3]) (rest := []) ⟨hx, hb, hml, hown, hts⟩ (conX4_size l D T a3) (va_cwS 1 hts gX4_cover_X4_size rfl rfl rfl (by decide +kernel) ⟨Nat.le_of_ble_eq_true rfl, Nat.le_of_ble_eq_true rfl⟩) (preS hK na3) rfl rfl hl.1 rfl (lv_room (Nat.le_of_ble_eq_true rfl)) dX4_cover_35 ⟨Nat.le_of_ble_eq_true rfl, Nat.le_of_ble_eq_true rfl⟩).run (fun r4 hr4 => ?_)
      rw [hr4]
      refine lv_goto (tgt := 46) hx hb dX4_cover_38 (by decide) ?_
      have ht9 : tw_cover (nI k1) (nI k2) = nI 0 := by unfold tw_cover; rw [if_neg c9, if_neg c26]
      exact W.iret (v := nI 0) hx hb hr (fun t ht _ => ⟨⟨nI 0, (), rfl, by intro _; rfl, by dsimp only; rw [ht]; exact (by rw [ht9]; exact ⟨_, _, hw.o⟩)⟩, hS.F ht⟩) hS.2.2 dX4_cover_46
  · skip
    refine lv_aload_n hx hb dX4_cover_12 rfl (lv_at hl 0 rfl) ?_
    refine lv_iconst (v := nI 1) hx hb dX4_cover_13 (by decide) ?_
    refine va_calli (va_runV (As := [.int (nI 1)]) (rest := []) ⟨hx, hb, hml, hown, hts⟩ (conX4_no l D T m0 (nI 0) (nI 1) (.ref (m0 + 1)) (.ref (m0 + 10))) (cwV 1 hts gX4_cover_X4_no rfl rfl rfl (by decide +kernel) ⟨Nat.le_of_ble_eq_true rfl, Nat.le_of_ble_eq_true rfl⟩) (preV hK hw.o rfl hw.o) rfl rfl hl.1 rfl (lv_room (Nat.le_of_ble_eq_true rfl)) dX4_cover_14 ⟨Nat.le_of_ble_eq_true rfl, Nat.le_of_ble_eq_true rfl⟩) hS (fun q _ h9 => (hA q (by have h8 : q = m0 := h9; omega))) (fun q h9 => (hA q (by have h8 : q = m0 := h9; omega))) (fun r u t H1 locs1 ht hvm hw9 hB hz1 hk1 hS => ?_)
    try dsimp only at hB
    rw [ht] at hB
    rw [hw9]
    replace hw := hw.setK hB hk1
    have ht9 : tw_cover x1 x2 = nI 1 := by unfold tw_cover; rw [if_pos c9]
    refine W.widen (k := 2) (n := 201) (by first | omega | decide) (by first | omega | decide) ?_
    exact W.iret (v := nI 0) hx hb hr (fun t ht _ => ⟨⟨nI 0, (), rfl, by exact fun h9 => absurd (ht9.symm.trans h9) (by decide), by dsimp only; rw [ht]; exact (by rw [ht9]; exact ⟨_, _, hw.o⟩)⟩, hS.F ht⟩) hS.2.2 dX4_cover_17

set_option maxHeartbeats 4000000 in
set_option maxRecDepth 100000 in
theorem conX4_covers (l : Launch) (D : va_G) (T : Nat → ClassId) (sz m0 : Nat) (th x1 x2 x3 : Int32) : Met l yX4_covers wsX4_covers ({ frames := 2, cells := 2, slots := 201, locals := 90 }) (cP D T [.ref m0, .int x1, .int x2, .int x3] (fun H => H.size = sz ∧ MF D T m0 th H)) (va_Qi (fun (r : Int32) (_ : Unit) => tw_covers x1 x2 x3 = nI 0 → r = nI 0) (fun _ t => MT D m0 (tw_covers x1 x2 x3) t.heap) (MA m0 sz)) 2 201 (MA m0 sz) := by
  refine Met.ofW (cc := cX4_covers) (maxL := 5) (ret := (some .int)) (by decide) rfl ?_
  intro p e s m args below meth c s₁ B hml hv9
  obtain ⟨rfl, hK, hsz, hw⟩ := hv9
  have hx := B.exec
  have hb := B.bytes
  have hr := B.returns
  have hts := atoms_spec (ws := wsX4_covers) B.pre
  have hown : s.vm.findClass RX4 = some m.cls := findClass_of_methodNamed B.named
  have hlocks := B.notSynchronized
  have hin4 : ∀ w ∈ wsX40, w ∈ wsX4_covers := by decide +kernel
  generalize hAe : (MA m0 sz) = A
  have hA : ∀ q : Nat, ((m0 ≤ q ∧ q < m0 + 16) ∨ s.heap.size ≤ q) → A q := fun q h9 => by subst hAe; show (m0 ≤ q ∧ q < m0 + 16) ∨ sz ≤ q; omega
  have hS : va_S A s.heap s.heap [] := va_S.rf
  have hl := lv_entry ([.ref m0, .int x1, .int x2, .int x3]) (n := 5) (Nat.le_of_ble_eq_true rfl)
  rw [lg_entry_eq]
  generalize (lg_sl ([.ref m0, .int x1, .int x2, .int x3]) ++ List.replicate (5 - (lg_sl ([.ref m0, .int x1, .int x2, .int x3])).length) Slot.unset).toArray = ls at hl ⊢
  have hl : lv_has ls 5 [(0, .ref m0), (1, .int x1), (2, .int x2), (3, .int x3)] := hl
  refine lv_aload_n hx hb dX4_covers_0 rfl (lv_at hl 0 rfl) ?_
  refine lv_iconst (v := nI 0) hx hb dX4_covers_1 (by decide) ?_
  refine q_put (v := .int (nI 0)) hx hb hts hin4 tyX4 tyX4_ok nmX4 hown hK hw.o rfl 0 (by decide) (hts (.fieldLink RX4 19 "PuddingstoneLineModel" "thrown" "I") (by decide +kernel)) (fun _ h9 => h9) rfl rfl rfl (Nat.le_of_ble_eq_true rfl) hS (hA _ (by omega)) dX4_covers_2 (fun H1 locs1 hw9 oq hS => ?_)
  replace hw := hw.setO hw9 oq
  refine lv_iload_n hx hb dX4_covers_5 rfl (lv_at hl 2 rfl) ?_
  refine vp_callSi (va_runS (As := [.int x2]) (rest := []) ⟨hx, hb, hml, hown, hts⟩ (conX4_isSet l D T x2) (va_cwS 1 hts gX4_covers_X4_isSet rfl rfl rfl (by decide +kernel) ⟨Nat.le_of_ble_eq_true rfl, Nat.le_of_ble_eq_true rfl⟩) (preS hK trivial) rfl rfl hl.1 rfl (lv_room (Nat.le_of_ble_eq_true rfl)) dX4_covers_6 ⟨Nat.le_of_ble_eq_true rfl, Nat.le_of_ble_eq_true rfl⟩).run (fun r1 hr1 => ?_)
  rw [hr1]
  refine lv_if_ne (tgt := 18) hx hb dX4_covers_9 (by decide) (fun c9 => ?_) (fun c9 => ?_)
  · skip
    obtain ⟨k2, hk2, rfl⟩ := inM_ok (n := 7) (by decide) c9
    refine lv_iload_n hx hb dX4_covers_18 rfl (lv_at hl 1 rfl) ?_
    refine lv_iconst (v := nI 0) hx hb dX4_covers_19 (by decide) ?_
    refine lv_sipush (v := nI 255) hx hb dX4_covers_20 (by decide) ?_
    refine vp_callSi (va_runS (As := [.int x1, .int (nI 0), .int (nI 255)]) (rest := []) ⟨hx, hb, hml, hown, hts⟩ (conX4_isIn l D T x1 (nI 0) (nI 255)) (va_cwS 3 hts gX4_covers_X4_isIn rfl rfl rfl (by decide +kernel) ⟨Nat.le_of_ble_eq_true rfl, Nat.le_of_ble_eq_true rfl⟩) (preS hK trivial) rfl rfl hl.1 rfl (lv_room (Nat.le_of_ble_eq_true rfl)) dX4_covers_23 ⟨Nat.le_of_ble_eq_true rfl, Nat.le_of_ble_eq_true rfl⟩).run (fun r2 hr2 => ?_)
    rw [hr2]
    refine lv_if_ne (tgt := 35) hx hb dX4_covers_26 (by decide) (fun c26 => ?_) (fun c26 => ?_)
    · skip
      obtain ⟨k1, hk1, rfl⟩ := inM_ok (n := 255) (by decide) c26
      refine lv_aload_n hx hb dX4_covers_35 rfl (lv_at hl 0 rfl) ?_
      refine lv_iload_n hx hb dX4_covers_36 rfl (lv_at hl 1 rfl) ?_
      refine lv_iload_n hx hb dX4_covers_37 rfl (lv_at hl 2 rfl) ?_
      obtain ⟨b1, hb1⟩ : ∃ z : Nat, z = H1.size := ⟨_, rfl⟩
      have lw_b1 : m0 + 16 ≤ b1 := by have h8 := hw.lt; omega
      have ln_b1 : s.heap.size ≤ b1 := by have h8 := hS.1; omega
      refine va_callr (va_runV (As := [.int (nI k1), .int (nI k2)]) (rest := []) ⟨hx, hb, hml, hown, hts⟩ (conX4_coverNow l D T b1 m0 (nI 0) (nI k1) k2 (by omega)) (cwV 2 hts gX4_covers_X4_coverNow rfl rfl rfl (by decide +kernel) ⟨Nat.le_of_ble_eq_true rfl, Nat.le_of_ble_eq_true rfl⟩) (preV hK hw.o rfl ⟨hb1.symm, hw⟩) rfl rfl hl.1 rfl (lv_room (Nat.le_of_ble_eq_true rfl)) dX4_covers_38 ⟨Nat.le_of_ble_eq_true rfl, Nat.le_of_ble_eq_true rfl⟩) hS (fun q _ h9 => (hA q (by have h8 : b1 ≤ q := h9; omega))) (fun q h9 => (hA q (by have h8 : b1 ≤ q := h9; omega))) (fun u ra t H1 locs1 ht hvm hw9 hB hz1 hk1 hS => ?_)
      try dsimp only at hB
      rw [ht] at hB
      obtain ⟨a3, rfl⟩ : ∃ z, z = ra := ⟨_, rfl⟩
      obtain ⟨hz_a3, na3⟩ := hB
      replace hw := hw.kept hk1 (fun q h7 h8 (h9 : b1 ≤ q) => by omega)
      refine lv_astore (lv' := [(4, .ref a3), (0, .ref m0), (1, .int (nI k1)), (2, .int (nI k2)), (3, .int x3)]) hx hb dX4_covers_41 hl (by decide) rfl (fun ls hl => ?_)
      refine lv_iload_n hx hb dX4_covers_43 rfl (lv_at hl 4 rfl) ?_
      refine lv_iconst (v := nI 0) hx hb dX4_covers_44 (by decide) ?_
      refine lv_aload hx hb dX4_covers_45 (lv_at hl 0 rfl) ?_
      refine vp_callSi (va_runS (As := [.ref a3]) (rest := [.int (nI 0), .int x3]) ⟨hx, hb, hml, hown, hts⟩ (conX4_size l D T a3) (va_cwS 1 hts gX4_covers_X4_size rfl rfl rfl (by decide +kernel) ⟨Nat.le_of_ble_eq_true rfl, Nat.le_of_ble_eq_true rfl⟩) (preS hK na3) rfl rfl hl.1 rfl (lv_room (Nat.le_of_ble_eq_true rfl)) dX4_covers_47 ⟨Nat.le_of_ble_eq_true rfl, Nat.le_of_ble_eq_true rfl⟩).run (fun r4 hr4 => ?_)
      rw [hr4]
      refine lv_iconst (v := nI 1) hx hb dX4_covers_50 (by decide) ?_
      refine lv_isub hx hb dX4_covers_51 ?_
      refine vp_callSi (va_runS (As := [.int x3, .int (nI 0), .int ((nI 0) - (nI 1))]) (rest := []) ⟨hx, hb, hml, hown, hts⟩ (conX4_isIn l D T x3 (nI 0) ((nI 0) - (nI 1))) (va_cwS 3 hts gX4_covers_X4_isIn rfl rfl rfl (by decide +kernel) ⟨Nat.le_of_ble_eq_true rfl, Nat.le_of_ble_eq_true rfl⟩) (preS hK trivial) rfl rfl hl.1 rfl (lv_room (Nat.le_of_ble_eq_true rfl)) dX4_covers_52 ⟨Nat.le_of_ble_eq_true rfl, Nat.le_of_ble_eq_true rfl⟩).run (fun r5 hr5 => ?_)
      rw [hr5]
      refine lv_if_eq (tgt := 65) hx hb dX4_covers_55 (by decide) (fun c55 => ?_) (fun c55 => ?_)
      · skip
        refine lv_aload_n hx hb dX4_covers_65 rfl (lv_at hl 1 rfl) ?_
        refine lv_iconst (v := nI 1) hx hb dX4_covers_66 (by decide) ?_
        refine va_calli (va_runV (As := [.int (nI 1)]) (rest := []) ⟨hx, hb, hml, hown, hts⟩ (conX4_no l D T m0 (nI 0) (nI 1) (.ref (m0 + 1)) (.ref (m0 + 10))) (cwV 1 hts gX4_covers_X4_no rfl rfl rfl (by decide +kernel) ⟨Nat.le_of_ble_eq_true rfl, Nat.le_of_ble_eq_true rfl⟩) (preV hK hw.o rfl hw.o) rfl rfl hl.1 rfl (lv_room (Nat.le_of_ble_eq_true rfl)) dX4_covers_67 ⟨Nat.le_of_ble_eq_true rfl, Nat.le_of_ble_eq_true rfl⟩) hS (fun q _ h9 => (hA q (by have h8 : q = m0 := h9; omega))) (fun q h9 => (hA q (by have h8 : q = m0 := h9; omega))) (fun r u t H1 locs1 ht hvm hw9 hB hz1 hk1 hS => ?_)
        try dsimp only at hB
        rw [ht] at hB
        rw [hw9]
        replace hw := hw.setK hB hk1
        have ht9 : tw_covers (nI k1) (nI k2) x3 = nI 1 := by unfold tw_covers; rw [if_neg c9, if_neg c26]
        exact W.iret (v := nI 0) hx hb hr (fun t ht _ => ⟨⟨nI 0, (), rfl, by exact fun h9 => absurd (ht9.symm.trans h9) (by decide), by dsimp only; rw [ht]; exact (by rw [ht9]; exact ⟨_, _, hw.o⟩)⟩, hS.F ht⟩) hS.2.2 dX4_covers_70
      · skip
        exact absurd (inM_none _) c55
    · skip
      refine lv_aload_n hx hb dX4_covers_29 rfl (lv_at hl 0 rfl) ?_
      refine lv_iconst (v := nI 2) hx hb dX4_covers_30 (by decide) ?_
      refine va_calli (va_runV (As := [.int (nI 2)]) (rest := []) ⟨hx, hb, hml, hown, hts⟩ (conX4_no l D T m0 (nI 0) (nI 2) (.ref (m0 + 1)) (.ref (m0 + 10))) (cwV 1 hts gX4_covers_X4_no rfl rfl rfl (by decide +kernel) ⟨Nat.le_of_ble_eq_true rfl, Nat.le_of_ble_eq_true rfl⟩) (preV hK hw.o rfl hw.o) rfl rfl hl.1 rfl (lv_room (Nat.le_of_ble_eq_true rfl)) dX4_covers_31 ⟨Nat.le_of_ble_eq_true rfl, Nat.le_of_ble_eq_true rfl⟩) hS (fun q _ h9 => (hA q (by have h8 : q = m0 := h9; omega))) (fun q h9 => (hA q (by have h8 : q = m0 := h9; omega))) (fun r u t H1 locs1 ht hvm hw9 hB hz1 hk1 hS => ?_)
      try dsimp only at hB
      rw [ht] at hB
      rw [hw9]
      replace hw := hw.setK hB hk1
      have ht9 : tw_covers x1 (nI k2) x3 = nI 2 := by unfold tw_covers; rw [if_neg c9, if_pos c26]
      refine W.widen (k := 2) (n := 201) (by first | omega | decide) (by first | omega | decide) ?_
      exact W.iret (v := nI 0) hx hb hr (fun t ht _ => ⟨⟨nI 0, (), rfl, by exact fun h9 => absurd (ht9.symm.trans h9) (by decide), by dsimp only; rw [ht]; exact (by rw [ht9]; exact ⟨_, _, hw.o⟩)⟩, hS.F ht⟩) hS.2.2 dX4_covers_34
  · skip
    refine lv_aload_n hx hb dX4_covers_12 rfl (lv_at hl 0 rfl) ?_
    refine lv_iconst (v := nI 1) hx hb dX4_covers_13 (by decide) ?_
    refine va_calli (va_runV (As := [.int (nI 1)]) (rest := []) ⟨hx, hb, hml, hown, hts⟩ (conX4_no l D T m0 (nI 0) (nI 1) (.ref (m0 + 1)) (.ref (m0 + 10))) (cwV 1 hts gX4_covers_X4_no rfl rfl rfl (by decide +kernel) ⟨Nat.le_of_ble_eq_true rfl, Nat.le_of_ble_eq_true rfl⟩) (preV hK hw.o rfl hw.o) rfl rfl hl.1 rfl (lv_room (Nat.le_of_ble_eq_true rfl)) dX4_covers_14 ⟨Nat.le_of_ble_eq_true rfl, Nat.le_of_ble_eq_true rfl⟩) hS (fun q _ h9 => (hA q (by have h8 : q = m0 := h9; omega))) (fun q h9 => (hA q (by have h8 : q = m0 := h9; omega))) (fun r u t H1 locs1 ht hvm hw9 hB hz1 hk1 hS => ?_)
    try dsimp only at hB
    rw [ht] at hB
    rw [hw9]
    replace hw := hw.setK hB hk1
    have ht9 : tw_covers x1 x2 x3 = nI 1 := by unfold tw_covers; rw [if_pos c9]
    refine W.widen (k := 2) (n := 201) (by first | omega | decide) (by first | omega | decide) ?_
    exact W.iret (v := nI 0) hx hb hr (fun t ht _ => ⟨⟨nI 0, (), rfl, by exact fun h9 => absurd (ht9.symm.trans h9) (by decide), by dsimp only; rw [ht]; exact (by rw [ht9]; exact ⟨_, _, hw.o⟩)⟩, hS.F ht⟩) hS.2.2 dX4_covers_17

set_option maxHeartbeats 4000000 in
set_option maxRecDepth 100000 in
theorem conX4_apart (l : Launch) (D : va_G) (T : Nat → ClassId) (sz m0 : Nat) (th x1 : Int32) : Met l yX4_apart wsX4_apart ({ frames := 1, cells := 0, slots := 0, locals := 26 }) (cP D T [.ref m0, .int x1] (fun H => H.size = sz ∧ MF D T m0 th H)) (va_Qi (fun (r : Int32) (_ : Unit) => tw_apart x1 = nI 0 → r = nI 0) (fun _ t => MT D m0 (tw_apart x1) t.heap) (MA m0 sz)) 0 0 (MA m0 sz) := by
  refine Met.ofW (cc := cX4_apart) (maxL := 2) (ret := (some .int)) (by decide) rfl ?_
  intro p e s m args below meth c s₁ B hml hv9
  obtain ⟨rfl, hK, hsz, hw⟩ := hv9
  have hx := B.exec
  have hb := B.bytes
  have hr := B.returns
  have hts := atoms_spec (ws := wsX4_apart) B.pre
  have hown : s.vm.findClass RX4 = some m.cls := findClass_of_methodNamed B.named
  have hlocks := B.notSynchronized
  have hin4 : ∀ w ∈ wsX40, w ∈ wsX4_apart := by decide +kernel
  generalize hAe : (MA m0 sz) = A
  have hA : ∀ q : Nat, ((m0 ≤ q ∧ q < m0 + 16) ∨ s.heap.size ≤ q) → A q := fun q h9 => by subst hAe; show (m0 ≤ q ∧ q < m0 + 16) ∨ sz ≤ q; omega
  have hS : va_S A s.heap s.heap [] := va_S.rf
  have hl := lv_entry ([.ref m0, .int x1]) (n := 2) (Nat.le_of_ble_eq_true rfl)
  rw [lg_entry_eq]
  generalize (lg_sl ([.ref m0, .int x1]) ++ List.replicate (2 - (lg_sl ([.ref m0, .int x1])).length) Slot.unset).toArray = ls at hl ⊢
  have hl : lv_has ls 2 [(0, .ref m0), (1, .int x1)] := hl
  refine lv_aload_n hx hb dX4_apart_0 rfl (lv_at hl 0 rfl) ?_
  refine lv_iconst (v := nI 0) hx hb dX4_apart_1 (by decide) ?_
  refine q_put (v := .int (nI 0)) hx hb hts hin4 tyX4 tyX4_ok nmX4 hown hK hw.o rfl 0 (by decide) (hts (.fieldLink RX4 19 "PuddingstoneLineModel" "thrown" "I") (by decide +kernel)) (fun _ h9 => h9) rfl rfl rfl (Nat.le_of_ble_eq_true rfl) hS (hA _ (by omega)) dX4_apart_2 (fun H1 locs1 hw9 oq hS => ?_)
  replace hw := hw.setO hw9 oq
  refine lv_iload_n hx hb dX4_apart_5 rfl (lv_at hl 1 rfl) ?_
  refine lv_iconst (v := nI 0) hx hb dX4_apart_6 (by decide) ?_
  refine lv_sipush (v := nI 255) hx hb dX4_apart_7 (by decide) ?_
  refine vp_callSi (va_runS (As := [.int x1, .int (nI 0), .int (nI 255)]) (rest := []) ⟨hx, hb, hml, hown, hts⟩ (conX4_isIn l D T x1 (nI 0) (nI 255)) (va_cwS 3 hts gX4_apart_X4_isIn rfl rfl rfl (by decide +kernel) ⟨Nat.le_of_ble_eq_true rfl, Nat.le_of_ble_eq_true rfl⟩) (preS hK trivial) rfl rfl hl.1 rfl (lv_room (Nat.le_of_ble_eq_true rfl)) dX4_apart_10 ⟨Nat.le_of_ble_eq_true rfl, Nat.le_of_ble_eq_true rfl⟩).run (fun r1 hr1 => ?_)
  rw [hr1]
  refine lv_if_eq (tgt := 24) hx hb dX4_apart_13 (by decide) (fun c13 => ?_) (fun c13 => ?_)
  · skip
    refine lv_aload_n hx hb dX4_apart_24 rfl (lv_at hl 0 rfl) ?_
    refine lv_iconst (v := nI 1) hx hb dX4_apart_25 (by decide) ?_
    refine va_calli (va_runV (As := [.int (nI 1)]) (rest := []) ⟨hx, hb, hml, hown, hts⟩ (conX4_no l D T m0 (nI 0) (nI 1) (.ref (m0 + 1)) (.ref (m0 + 10))) (cwV 1 hts gX4_apart_X4_no rfl rfl rfl (by decide +kernel) ⟨Nat.le_of_ble_eq_true rfl, Nat.le_of_ble_eq_true rfl⟩) (preV hK hw.o rfl hw.o) rfl rfl hl.1 rfl (lv_room (Nat.le_of_ble_eq_true rfl)) dX4_apart_26 ⟨Nat.le_of_ble_eq_true rfl, Nat.le_of_ble_eq_true rfl⟩) hS (fun q _ h9 => (hA q (by have h8 : q = m0 := h9; omega))) (fun q h9 => (hA q (by have h8 : q = m0 := h9; omega))) (fun r u t H1 locs1 ht hvm hw9 hB hz1 hk1 hS => ?_)
    try dsimp only at hB
    rw [ht] at hB
    rw [hw9]
    replace hw := hw.setK hB hk1
    have ht9 : tw_apart x1 = nI 1 := by unfold tw_apart; rw [if_pos c13]
    exact W.iret (v := nI 0) hx hb hr (fun t ht _ => ⟨⟨nI 0, (), rfl, by exact fun h9 => absurd (ht9.symm.trans h9) (by decide), by dsimp only; rw [ht]; exact (by rw [ht9]; exact ⟨_, _, hw.o⟩)⟩, hS.F ht⟩) hS.2.2 dX4_apart_29
  · skip
    obtain ⟨k1, hk1, rfl⟩ := inM_ok (n := 255) (by decide) c13
    refine lv_aload_n hx hb dX4_apart_16 rfl (lv_at hl 0 rfl) ?_
    refine lv_iload_n hx hb dX4_apart_17 rfl (lv_at hl 1 rfl) ?_
    refine vp_callSi (va_runV (As := [.int (nI k1)]) (rest := []) ⟨hx, hb, hml, hown, hts⟩ (conX4_pinsNow l D T m0 (nI 0) (nI k1)) (cwV 1 hts gX4_apart_X4_pinsNow rfl rfl rfl (by decide +kernel) ⟨Nat.le_of_ble_eq_true rfl, Nat.le_of_ble_eq_true rfl⟩) (preV hK hw.o rfl hw) rfl rfl hl.1 rfl (lv_room (Nat.le_of_ble_eq_true rfl)) dX4_apart_18 ⟨Nat.le_of_ble_eq_true rfl, Nat.le_of_ble_eq_true rfl⟩).run (fun r2 hr2 => ?_)
    rw [hr2]
    refine lv_goto (tgt := 29) hx hb dX4_apart_21 (by decide) ?_
    have ht9 : tw_apart (nI k1) = nI 0 := by unfold tw_apart; rw [if_neg c13]
    exact W.iret (v := nI 0) hx hb hr (fun t ht _ => ⟨⟨nI 0, (), rfl, by intro _; rfl, by dsimp only; rw [ht]; exact (by rw [ht9]; exact ⟨_, _, hw.o⟩)⟩, hS.F ht⟩) hS.2.2 dX4_apart_29

set_option maxHeartbeats 4000000 in
set_option maxRecDepth 100000 in
theorem conX4_pins (l : Launch) (D : va_G) (T : Nat → ClassId) (sz m0 : Nat) (th x1 : Int32) : Met l yX4_pins wsX4_pins ({ frames := 1, cells := 0, slots := 0, locals := 26 }) (cP D T [.ref m0, .int x1] (fun H => H.size = sz ∧ MF D T m0 th H)) (va_Qi (fun (r : Int32) (_ : Unit) => tw_pins x1 = nI 0 → r = nI 0) (fun _ t => MT D m0 (tw_pins x1) t.heap) (MA m0 sz)) 0 0 (MA m0 sz) := by
  refine Met.ofW (cc := cX4_pins) (maxL := 2) (ret := (some .int)) (by decide) rfl ?_
  intro p e s m args below meth c s₁ B hml hv9
  obtain ⟨rfl, hK, hsz, hw⟩ := hv9
  have hx := B.exec
  have hb := B.bytes
  have hr := B.returns
  have hts := atoms_spec (ws := wsX4_pins) B.pre
  have hown : s.vm.findClass RX4 = some m.cls := findClass_of_methodNamed B.named
  have hlocks := B.notSynchronized
  have hin4 : ∀ w ∈ wsX40, w ∈ wsX4_pins := by decide +kernel
  generalize hAe : (MA m0 sz) = A
  have hA : ∀ q : Nat, ((m0 ≤ q ∧ q < m0 + 16) ∨ s.heap.size ≤ q) → A q := fun q h9 => by subst hAe; show (m0 ≤ q ∧ q < m0 + 16) ∨ sz ≤ q; omega
  have hS : va_S A s.heap s.heap [] := va_S.rf
  have hl := lv_entry ([.ref m0, .int x1]) (n := 2) (Nat.le_of_ble_eq_true rfl)
  rw [lg_entry_eq]
  generalize (lg_sl ([.ref m0, .int x1]) ++ List.replicate (2 - (lg_sl ([.ref m0, .int x1])).length) Slot.unset).toArray = ls at hl ⊢
  have hl : lv_has ls 2 [(0, .ref m0), (1, .int x1)] := hl
  refine lv_aload_n hx hb dX4_pins_0 rfl (lv_at hl 0 rfl) ?_
  refine lv_iconst (v := nI 0) hx hb dX4_pins_1 (by decide) ?_
  refine q_put (v := .int (nI 0)) hx hb hts hin4 tyX4 tyX4_ok nmX4 hown hK hw.o rfl 0 (by decide) (hts (.fieldLink RX4 19 "PuddingstoneLineModel" "thrown" "I") (by decide +kernel)) (fun _ h9 => h9) rfl rfl rfl (Nat.le_of_ble_eq_true rfl) hS (hA _ (by omega)) dX4_pins_2 (fun H1 locs1 hw9 oq hS => ?_)
  replace hw := hw.setO hw9 oq
  refine lv_iload_n hx hb dX4_pins_5 rfl (lv_at hl 1 rfl) ?_
  refine lv_iconst (v := nI 0) hx hb dX4_pins_6 (by decide) ?_
  refine lv_sipush (v := nI 255) hx hb dX4_pins_7 (by decide) ?_
  refine vp_callSi (va_runS (As := [.int x1, .int (nI 0), .int (nI 255)]) (rest := []) ⟨hx, hb, hml, hown, hts⟩ (conX4_isIn l D T x1 (nI 0) (nI 255)) (va_cwS 3 hts gX4_pins_X4_isIn rfl rfl rfl (by decide +kernel) ⟨Nat.le_of_ble_eq_true rfl, Nat.le_of_ble_eq_true rfl⟩) (preS hK trivial) rfl rfl hl.1 rfl (lv_room (Nat.le_of_ble_eq_true rfl)) dX4_pins_10 ⟨Nat.le_of_ble_eq_true rfl, Nat.le_of_ble_eq_true rfl⟩).run (fun r1 hr1 => ?_)
  rw [hr1]
  refine lv_if_eq (tgt := 24) hx hb dX4_pins_13 (by decide) (fun c13 => ?_) (fun c13 => ?_)
  · skip
    refine lv_aload_n hx hb dX4_pins_24 rfl (lv_at hl 0 rfl) ?_
    refine lv_iconst (v := nI 1) hx hb dX4_pins_25 (by decide) ?_
    refine va_calli (va_runV (As := [.int (nI 1)]) (rest := []) ⟨hx, hb, hml, hown, hts⟩ (conX4_no l D T m0 (nI 0) (nI 1) (.ref (m0 + 1)) (.ref (m0 + 10))) (cwV 1 hts gX4_pins_X4_no rfl rfl rfl (by decide +kernel) ⟨Nat.le_of_ble_eq_true rfl, Nat.le_of_ble_eq_true rfl⟩) (preV hK hw.o rfl hw.o) rfl rfl hl.1 rfl (lv_room (Nat.le_of_ble_eq_true rfl)) dX4_pins_26 ⟨Nat.le_of_ble_eq_true rfl, Nat.le_of_ble_eq_true rfl⟩) hS (fun q _ h9 => (hA q (by have h8 : q = m0 := h9; omega))) (fun q h9 => (hA q (by have h8 : q = m0 := h9; omega))) (fun r u t H1 locs1 ht hvm hw9 hB hz1 hk1 hS => ?_)
    try dsimp only at hB
    rw [ht] at hB
    rw [hw9]
    replace hw := hw.setK hB hk1
    have ht9 : tw_pins x1 = nI 1 := by unfold tw_pins; rw [if_pos c13]
    exact W.iret (v := nI 0) hx hb hr (fun t ht _ => ⟨⟨nI 0, (), rfl, by exact fun h9 => absurd (ht9.symm.trans h9) (by decide), by dsimp only; rw [ht]; exact (by rw [ht9]; exact ⟨_, _, hw.o⟩)⟩, hS.F ht⟩) hS.2.2 dX4_pins_29
  · skip
    obtain ⟨k1, hk1, rfl⟩ := inM_ok (n := 255) (by decide) c13
    refine lv_aload_n hx hb dX4_pins_16 rfl (lv_at hl 0 rfl) ?_
    refine lv_iload_n hx hb dX4_pins_17 rfl (lv_at hl 1 rfl) ?_
    refine vp_callSi (va_runV (As := [.int (nI k1)]) (rest := []) ⟨hx, hb, hml, hown, hts⟩ (conX4_pinsNow l D T m0 (nI 0) (nI k1)) (cwV 1 hts gX4_pins_X4_pinsNow rfl rfl rfl (by decide +kernel) ⟨Nat.le_of_ble_eq_true rfl, Nat.le_of_ble_eq_true rfl⟩) (preV hK hw.o rfl hw) rfl rfl hl.1 rfl (lv_room (Nat.le_of_ble_eq_true rfl)) dX4_pins_18 ⟨Nat.le_of_ble_eq_true rfl, Nat.le_of_ble_eq_true rfl⟩).run (fun r2 hr2 => ?_)
    rw [hr2]
    refine lv_goto (tgt := 29) hx hb dX4_pins_21 (by decide) ?_
    have ht9 : tw_pins (nI k1) = nI 0 := by unfold tw_pins; rw [if_neg c13]
    exact W.iret (v := nI 0) hx hb hr (fun t ht _ => ⟨⟨nI 0, (), rfl, by intro _; rfl, by dsimp only; rw [ht]; exact (by rw [ht9]; exact ⟨_, _, hw.o⟩)⟩, hS.F ht⟩) hS.2.2 dX4_pins_29

set_option maxHeartbeats 4000000 in
set_option maxRecDepth 100000 in
theorem conX4_meetWith (l : Launch) (D : va_G) (T : Nat → ClassId) (sz m0 : Nat) (th x1 x2 x3 : Int32) : Met l yX4_meetWith wsX4_meetWith ({ frames := 2, cells := 2, slots := 402, locals := 44 }) (cP D T [.ref m0, .int x1, .int x2, .int x3] (fun H => H.size = sz ∧ MF D T m0 th H)) (va_Qi (fun (r : Int32) (_ : Unit) => tw_meetWith x1 x2 x3 = nI 0 → r = nI 0) (fun _ t => MT D m0 (tw_meetWith x1 x2 x3) t.heap) (MA m0 sz)) 2 402 (MA m0 sz) := by
  refine Met.ofW (cc := cX4_meetWith) (maxL := 4) (ret := (some .int)) (by decide) rfl ?_
  intro p e s m args below meth c s₁ B hml hv9
  obtain ⟨rfl, hK, hsz, hw⟩ := hv9
  have hx := B.exec
  have hb := B.bytes
  have hr := B.returns
  have hts := atoms_spec (ws := wsX4_meetWith) B.pre
  have hown : s.vm.findClass RX4 = some m.cls := findClass_of_methodNamed B.named
  have hlocks := B.notSynchronized
  have hin4 : ∀ w ∈ wsX40, w ∈ wsX4_meetWith := by decide +kernel
  generalize hAe : (MA m0 sz) = A
  have hA : ∀ q : Nat, ((m0 ≤ q ∧ q < m0 + 16) ∨ s.heap.size ≤ q) → A q := fun q h9 => by subst hAe; show (m0 ≤ q ∧ q < m0 + 16) ∨ sz ≤ q; omega
  have hS : va_S A s.heap s.heap [] := va_S.rf
  have hl := lv_entry ([.ref m0, .int x1, .int x2, .int x3]) (n := 4) (Nat.le_of_ble_eq_true rfl)
  rw [lg_entry_eq]
  generalize (lg_sl ([.ref m0, .int x1, .int x2, .int x3]) ++ List.replicate (4 - (lg_sl ([.ref m0, .int x1, .int x2, .int x3])).length) Slot.unset).toArray = ls at hl ⊢
  have hl : lv_has ls 4 [(0, .ref m0), (1, .int x1), (2, .int x2), (3, .int x3)] := hl
  refine lv_aload_n hx hb dX4_meetWith_0 rfl (lv_at hl 0 rfl) ?_
  refine lv_iconst (v := nI 0) hx hb dX4_meetWith_1 (by decide) ?_
  refine q_put (v := .int (nI 0)) hx hb hts hin4 tyX4 tyX4_ok nmX4 hown hK hw.o rfl 0 (by decide) (hts (.fieldLink RX4 19 "PuddingstoneLineModel" "thrown" "I") (by decide +kernel)) (fun _ h9 => h9) rfl rfl rfl (Nat.le_of_ble_eq_true rfl) hS (hA _ (by omega)) dX4_meetWith_2 (fun H1 locs1 hw9 oq hS => ?_)
  replace hw := hw.setO hw9 oq
  refine lv_iload_n hx hb dX4_meetWith_5 rfl (lv_at hl 1 rfl) ?_
  refine vp_callSi (va_runS (As := [.int x1]) (rest := []) ⟨hx, hb, hml, hown, hts⟩ (conX4_isSet l D T x1) (va_cwS 1 hts gX4_meetWith_X4_isSet rfl rfl rfl (by decide +kernel) ⟨Nat.le_of_ble_eq_true rfl, Nat.le_of_ble_eq_true rfl⟩) (preS hK trivial) rfl rfl hl.1 rfl (lv_room (Nat.le_of_ble_eq_true rfl)) dX4_meetWith_6 ⟨Nat.le_of_ble_eq_true rfl, Nat.le_of_ble_eq_true rfl⟩).run (fun r1 hr1 => ?_)
  rw [hr1]
  refine lv_if_eq (tgt := 19) hx hb dX4_meetWith_9 (by decide) (fun c9 => ?_) (fun c9 => ?_)
  · skip
    refine lv_aload_n hx hb dX4_meetWith_19 rfl (lv_at hl 0 rfl) ?_
    refine lv_iconst (v := nI 1) hx hb dX4_meetWith_20 (by decide) ?_
    refine va_calli (va_runV (As := [.int (nI 1)]) (rest := []) ⟨hx, hb, hml, hown, hts⟩ (conX4_no l D T m0 (nI 0) (nI 1) (.ref (m0 + 1)) (.ref (m0 + 10))) (cwV 1 hts gX4_meetWith_X4_no rfl rfl rfl (by decide +kernel) ⟨Nat.le_of_ble_eq_true rfl, Nat.le_of_ble_eq_true rfl⟩) (preV hK hw.o rfl hw.o) rfl rfl hl.1 rfl (lv_room (Nat.le_of_ble_eq_true rfl)) dX4_meetWith_21 ⟨Nat.le_of_ble_eq_true rfl, Nat.le_of_ble_eq_true rfl⟩) hS (fun q _ h9 => (hA q (by have h8 : q = m0 := h9; omega))) (fun q h9 => (hA q (by have h8 : q = m0 := h9; omega))) (fun r u t H1 locs1 ht hvm hw9 hB hz1 hk1 hS => ?_)
    try dsimp only at hB
    rw [ht] at hB
    rw [hw9]
    replace hw := hw.setK hB hk1
    have ht9 : tw_meetWith x1 x2 x3 = nI 1 := by unfold tw_meetWith; rw [if_pos c9]
    refine W.widen (k := 2) (n := 402) (by first | omega | decide) (by first | omega | decide) ?_
    exact W.iret (v := nI 0) hx hb hr (fun t ht _ => ⟨⟨nI 0, (), rfl, by exact fun h9 => absurd (ht9.symm.trans h9) (by decide), by dsimp only; rw [ht]; exact (by rw [ht9]; exact ⟨_, _, hw.o⟩)⟩, hS.F ht⟩) hS.2.2 dX4_meetWith_24
  · skip
    obtain ⟨k1, hk1, rfl⟩ := inM_ok (n := 7) (by decide) c9
    refine lv_iload_n hx hb dX4_meetWith_12 rfl (lv_at hl 3 rfl) ?_
    refine vp_callSi (va_runS (As := [.int x3]) (rest := []) ⟨hx, hb, hml, hown, hts⟩ (conX4_isSet l D T x3) (va_cwS 1 hts gX4_meetWith_X4_isSet rfl rfl rfl (by decide +kernel) ⟨Nat.le_of_ble_eq_true rfl, Nat.le_of_ble_eq_true rfl⟩) (preS hK trivial) rfl rfl hl.1 rfl (lv_room (Nat.le_of_ble_eq_true rfl)) dX4_meetWith_13 ⟨Nat.le_of_ble_eq_true rfl, Nat.le_of_ble_eq_true rfl⟩).run (fun r2 hr2 => ?_)
    rw [hr2]
    refine lv_if_ne (tgt := 25) hx hb dX4_meetWith_16 (by decide) (fun c16 => ?_) (fun c16 => ?_)
    · skip
      obtain ⟨k3, hk3, rfl⟩ := inM_ok (n := 7) (by decide) c16
      refine lv_iload_n hx hb dX4_meetWith_25 rfl (lv_at hl 2 rfl) ?_
      refine lv_bipush (v := (-100)) hx hb dX4_meetWith_26 (by decide) ?_
      refine lv_bipush (v := nI 100) hx hb dX4_meetWith_28 (by decide) ?_
      refine vp_callSi (va_runS (As := [.int x2, .int (-100), .int (nI 100)]) (rest := []) ⟨hx, hb, hml, hown, hts⟩ (conX4_isIn l D T x2 (-100) (nI 100)) (va_cwS 3 hts gX4_meetWith_X4_isIn rfl rfl rfl (by decide +kernel) ⟨Nat.le_of_ble_eq_true rfl, Nat.le_of_ble_eq_true rfl⟩) (preS hK trivial) rfl rfl hl.1 rfl (lv_room (Nat.le_of_ble_eq_true rfl)) dX4_meetWith_30 ⟨Nat.le_of_ble_eq_true rfl, Nat.le_of_ble_eq_true rfl⟩).run (fun r3 hr3 => ?_)
      rw [hr3]
      refine lv_if_eq (tgt := 61) hx hb dX4_meetWith_33 (by decide) (fun c33 => ?_) (fun c33 => ?_)
      · skip
        refine lv_aload_n hx hb dX4_meetWith_61 rfl (lv_at hl 0 rfl) ?_
        refine lv_iconst (v := nI 2) hx hb dX4_meetWith_62 (by decide) ?_
        refine va_calli (va_runV (As := [.int (nI 2)]) (rest := []) ⟨hx, hb, hml, hown, hts⟩ (conX4_no l D T m0 (nI 0) (nI 2) (.ref (m0 + 1)) (.ref (m0 + 10))) (cwV 1 hts gX4_meetWith_X4_no rfl rfl rfl (by decide +kernel) ⟨Nat.le_of_ble_eq_true rfl, Nat.le_of_ble_eq_true rfl⟩) (preV hK hw.o rfl hw.o) rfl rfl hl.1 rfl (lv_room (Nat.le_of_ble_eq_true rfl)) dX4_meetWith_63 ⟨Nat.le_of_ble_eq_true rfl, Nat.le_of_ble_eq_true rfl⟩) hS (fun q _ h9 => (hA q (by have h8 : q = m0 := h9; omega))) (fun q h9 => (hA q (by have h8 : q = m0 := h9; omega))) (fun r u t H1 locs1 ht hvm hw9 hB hz1 hk1 hS => ?_)
        try dsimp only at hB
        rw [ht] at hB
        rw [hw9]
        replace hw := hw.setK hB hk1
        have ht9 : tw_meetWith (nI k1) x2 (nI k3) = nI 2 := by unfold tw_meetWith; rw [if_neg c9, if_neg c16, if_pos c33]
        refine W.widen (k := 2) (n := 402) (by first | omega | decide) (by first | omega | decide) ?_
        exact W.iret (v := nI 0) hx hb hr (fun t ht _ => ⟨⟨nI 0, (), rfl, by exact fun h9 => absurd (ht9.symm.trans h9) (by decide), by dsimp only; rw [ht]; exact (by rw [ht9]; exact ⟨_, _, hw.o⟩)⟩, hS.F ht⟩) hS.2.2 dX4_meetWith_66
      · skip
        refine lv_aload_n hx hb dX4_meetWith_36 rfl (lv_at hl 0 rfl) ?_
        refine q_get (v := .ref (m0 + 1)) hx hb hts hin4 hown hK hw.o rfl 1 (by decide) (hts (.fieldLink RX4 11 "PuddingstoneLineModel" "sets" "[[Z") (by decide +kernel)) (fun _ h9 => h9) rfl dX4_meetWith_37 ?_
        refine lv_iload_n hx hb dX4_meetWith_40 rfl (lv_at hl 1 rfl) ?_
        refine q_aald hx hb hK 4 rfl rfl hw.s k1 (rfl) (by omega) (by decide) (b := m0 + 2 + k1) rfl dX4_meetWith_41 ?_
        refine lv_iload_n hx hb dX4_meetWith_42 rfl (lv_at hl 2 rfl) ?_
        obtain ⟨b1, hb1⟩ : ∃ z : Nat, z = H1.size := ⟨_, rfl⟩
        have lw_b1 : m0 + 16 ≤ b1 := by have h8 := hw.lt; omega
        have ln_b1 : s.heap.size ≤ b1 := by have h8 := hS.1; omega
        refine va_callr (va_runS (As := [.ref (m0 + 2 + k1), .int x2]) (rest := []) ⟨hx, hb, hml, hown, hts⟩ (conX4_moved l D T b1 (m0 + 2 + k1) x2) (va_cwS 2 hts gX4_meetWith_X4_moved rfl rfl rfl (by decide +kernel) ⟨Nat.le_of_ble_eq_true rfl, Nat.le_of_ble_eq_true rfl⟩) (preS hK ⟨hb1.symm, (hw.f k1 (by omega))⟩) rfl rfl hl.1 rfl (lv_room (Nat.le_of_ble_eq_true rfl)) dX4_meetWith_43 ⟨Nat.le_of_ble_eq_true rfl, Nat.le_of_ble_eq_true rfl⟩) hS (fun q _ h9 => (hA q (by have h8 : b1 ≤ q := h9; omega))) (fun q h9 => (hA q (by have h8 : b1 ≤ q := h9; omega))) (fun u ra t H1 locs1 ht hvm hw9 hB hz1 hk1 hS => ?_)
        try dsimp only at hB
        rw [ht] at hB
        obtain ⟨a4, rfl⟩ : ∃ z, z = ra := ⟨_, rfl⟩
        obtain ⟨hz_a4, na4⟩ := hB
        replace hw := hw.kept hk1 (fun q h7 h8 (h9 : b1 ≤ q) => by omega)
        refine lv_aload_n hx hb dX4_meetWith_46 rfl (lv_at hl 0 rfl) ?_
        refine q_get (v := .ref (m0 + 1)) hx hb hts hin4 hown hK hw.o rfl 1 (by decide) (hts (.fieldLink RX4 11 "PuddingstoneLineModel" "sets" "[[Z") (by decide +kernel)) (fun _ h9 => h9) rfl dX4_meetWith_47 ?_
        refine lv_iload_n hx hb dX4_meetWith_50 rfl (lv_at hl 3 rfl) ?_
        refine q_aald hx hb hK 4 rfl rfl hw.s k3 (rfl) (by omega) (by decide) (b := m0 + 2 + k3) rfl dX4_meetWith_51 ?_
        obtain ⟨b2, hb2⟩ : ∃ z : Nat, z = H1.size := ⟨_, rfl⟩
        have lna4_b2 : a4 < b2 := by have h8 := na4.lt; omega
        have lw_b2 : m0 + 16 ≤ b2 := by have h8 := hw.lt; omega
        have ln_b2 : s.heap.size ≤ b2 := by have h8 := hS.1; omega
        refine va_callr (va_runS (As := [.ref a4, .ref (m0 + 2 + k3)]) (rest := []) ⟨hx, hb, hml, hown, hts⟩ (conX4_both l D T b2 a4 (m0 + 2 + k3)) (va_cwS 2 hts gX4_meetWith_X4_both rfl rfl rfl (by decide +kernel) ⟨Nat.le_of_ble_eq_true rfl, Nat.le_of_ble_eq_true rfl⟩) (preS hK ⟨hb2.symm, na4, (hw.f k3 (by omega))⟩) rfl rfl hl.1 rfl (lv_room (Nat.le_of_ble_eq_true rfl)) dX4_meetWith_52 ⟨Nat.le_of_ble_eq_true rfl, Nat.le_of_ble_eq_true rfl⟩) hS (fun q _ h9 => (hA q (by have h8 : b2 ≤ q := h9; omega))) (fun q h9 => (hA q (by have h8 : b2 ≤ q := h9; omega))) (fun u ra t H1 locs1 ht hvm hw9 hB hz1 hk1 hS => ?_)
        try dsimp only at hB
        rw [ht] at hB
        obtain ⟨a5, rfl⟩ : ∃ z, z = ra := ⟨_, rfl⟩
        obtain ⟨hz_a5, na5⟩ := hB
        replace na4 := na4.kept (hk1 _ na4.lt (fun (h9 : b2 ≤ _) => by omega))
        replace hw := hw.kept hk1 (fun q h7 h8 (h9 : b2 ≤ q) => by omega)
        refine vp_callSi (va_runS (As := [.ref a5]) (rest := []) ⟨hx, hb, hml, hown, hts⟩ (conX4_longOf_ l D T a5) (va_cwS 1 hts gX4_meetWith_X4_longOf_ rfl rfl rfl (by decide +kernel) ⟨Nat.le_of_ble_eq_true rfl, Nat.le_of_ble_eq_true rfl⟩) (preS hK na5) rfl rfl hl.1 rfl (lv_room (Nat.le_of_ble_eq_true rfl)) dX4_meetWith_55 ⟨Nat.le_of_ble_eq_true rfl, Nat.le_of_ble_eq_true rfl⟩).run (fun r6 hr6 => ?_)
        rw [hr6]
        refine lv_goto (tgt := 66) hx hb dX4_meetWith_58 (by decide) ?_
        have ht9 : tw_meetWith (nI k1) x2 (nI k3) = nI 0 := by unfold tw_meetWith; rw [if_neg c9, if_neg c16, if_neg c33]
        exact W.iret (v := nI 0) hx hb hr (fun t ht _ => ⟨⟨nI 0, (), rfl, by intro _; rfl, by dsimp only; rw [ht]; exact (by rw [ht9]; exact ⟨_, _, hw.o⟩)⟩, hS.F ht⟩) hS.2.2 dX4_meetWith_66
    · skip
      refine lv_aload_n hx hb dX4_meetWith_19 rfl (lv_at hl 0 rfl) ?_
      refine lv_iconst (v := nI 1) hx hb dX4_meetWith_20 (by decide) ?_
      refine va_calli (va_runV (As := [.int (nI 1)]) (rest := []) ⟨hx, hb, hml, hown, hts⟩ (conX4_no l D T m0 (nI 0) (nI 1) (.ref (m0 + 1)) (.ref (m0 + 10))) (cwV 1 hts gX4_meetWith_X4_no rfl rfl rfl (by decide +kernel) ⟨Nat.le_of_ble_eq_true rfl, Nat.le_of_ble_eq_true rfl⟩) (preV hK hw.o rfl hw.o) rfl rfl hl.1 rfl (lv_room (Nat.le_of_ble_eq_true rfl)) dX4_meetWith_21 ⟨Nat.le_of_ble_eq_true rfl, Nat.le_of_ble_eq_true rfl⟩) hS (fun q _ h9 => (hA q (by have h8 : q = m0 := h9; omega))) (fun q h9 => (hA q (by have h8 : q = m0 := h9; omega))) (fun r u t H1 locs1 ht hvm hw9 hB hz1 hk1 hS => ?_)
      try dsimp only at hB
      rw [ht] at hB
      rw [hw9]
      replace hw := hw.setK hB hk1
      have ht9 : tw_meetWith (nI k1) x2 x3 = nI 1 := by unfold tw_meetWith; rw [if_neg c9, if_pos c16]
      refine W.widen (k := 2) (n := 402) (by first | omega | decide) (by first | omega | decide) ?_
      exact W.iret (v := nI 0) hx hb hr (fun t ht _ => ⟨⟨nI 0, (), rfl, by exact fun h9 => absurd (ht9.symm.trans h9) (by decide), by dsimp only; rw [ht]; exact (by rw [ht9]; exact ⟨_, _, hw.o⟩)⟩, hS.F ht⟩) hS.2.2 dX4_meetWith_24

set_option maxHeartbeats 4000000 in
set_option maxRecDepth 100000 in
theorem conX4_clear (l : Launch) (D : va_G) (T : Nat → ClassId) (sz m0 : Nat) (th x1 x2 : Int32) : Met l yX4_clear wsX4_clear ({ frames := 3, cells := 2, slots := 402, locals := 68 }) (cP D T [.ref m0, .int x1, .int x2] (fun H => H.size = sz ∧ MF D T m0 th H)) (va_Qi (fun (r : Int32) (_ : Unit) => tw_clear x1 x2 = nI 0 → r = nI 0) (fun _ t => MT D m0 (tw_clear x1 x2) t.heap) (MA m0 sz)) 2 402 (MA m0 sz) := by
  refine Met.ofW (cc := cX4_clear) (maxL := 4) (ret := (some .int)) (by decide) rfl ?_
  intro p e s m args below meth c s₁ B hml hv9
  obtain ⟨rfl, hK, hsz, hw⟩ := hv9
  have hx := B.exec
  have hb := B.bytes
  have hr := B.returns
  have hts := atoms_spec (ws := wsX4_clear) B.pre
  have hown : s.vm.findClass RX4 = some m.cls := findClass_of_methodNamed B.named
  have hlocks := B.notSynchronized
  have hin4 : ∀ w ∈ wsX40, w ∈ wsX4_clear := by decide +kernel
  generalize hAe : (MA m0 sz) = A
  have hA : ∀ q : Nat, ((m0 ≤ q ∧ q < m0 + 16) ∨ s.heap.size ≤ q) → A q := fun q h9 => by subst hAe; show (m0 ≤ q ∧ q < m0 + 16) ∨ sz ≤ q; omega
  have hS : va_S A s.heap s.heap [] := va_S.rf
  have hl := lv_entry ([.ref m0, .int x1, .int x2]) (n := 4) (Nat.le_of_ble_eq_true rfl)
  rw [lg_entry_eq]
  generalize (lg_sl ([.ref m0, .int x1, .int x2]) ++ List.replicate (4 - (lg_sl ([.ref m0, .int x1, .int x2])).length) Slot.unset).toArray = ls at hl ⊢
  have hl : lv_has ls 4 [(0, .ref m0), (1, .int x1), (2, .int x2)] := hl
  refine lv_aload_n hx hb dX4_clear_0 rfl (lv_at hl 0 rfl) ?_
  refine lv_iconst (v := nI 0) hx hb dX4_clear_1 (by decide) ?_
  refine q_put (v := .int (nI 0)) hx hb hts hin4 tyX4 tyX4_ok nmX4 hown hK hw.o rfl 0 (by decide) (hts (.fieldLink RX4 19 "PuddingstoneLineModel" "thrown" "I") (by decide +kernel)) (fun _ h9 => h9) rfl rfl rfl (Nat.le_of_ble_eq_true rfl) hS (hA _ (by omega)) dX4_clear_2 (fun H1 locs1 hw9 oq hS => ?_)
  replace hw := hw.setO hw9 oq
  refine lv_iload_n hx hb dX4_clear_5 rfl (lv_at hl 1 rfl) ?_
  refine vp_callSi (va_runS (As := [.int x1]) (rest := []) ⟨hx, hb, hml, hown, hts⟩ (conX4_isSet l D T x1) (va_cwS 1 hts gX4_clear_X4_isSet rfl rfl rfl (by decide +kernel) ⟨Nat.le_of_ble_eq_true rfl, Nat.le_of_ble_eq_true rfl⟩) (preS hK trivial) rfl rfl hl.1 rfl (lv_room (Nat.le_of_ble_eq_true rfl)) dX4_clear_6 ⟨Nat.le_of_ble_eq_true rfl, Nat.le_of_ble_eq_true rfl⟩).run (fun r1 hr1 => ?_)
  rw [hr1]
  refine lv_if_eq (tgt := 19) hx hb dX4_clear_9 (by decide) (fun c9 => ?_) (fun c9 => ?_)
  · skip
    refine lv_aload_n hx hb dX4_clear_19 rfl (lv_at hl 0 rfl) ?_
    refine lv_iconst (v := nI 1) hx hb dX4_clear_20 (by decide) ?_
    refine va_calli (va_runV (As := [.int (nI 1)]) (rest := []) ⟨hx, hb, hml, hown, hts⟩ (conX4_no l D T m0 (nI 0) (nI 1) (.ref (m0 + 1)) (.ref (m0 + 10))) (cwV 1 hts gX4_clear_X4_no rfl rfl rfl (by decide +kernel) ⟨Nat.le_of_ble_eq_true rfl, Nat.le_of_ble_eq_true rfl⟩) (preV hK hw.o rfl hw.o) rfl rfl hl.1 rfl (lv_room (Nat.le_of_ble_eq_true rfl)) dX4_clear_21 ⟨Nat.le_of_ble_eq_true rfl, Nat.le_of_ble_eq_true rfl⟩) hS (fun q _ h9 => (hA q (by have h8 : q = m0 := h9; omega))) (fun q h9 => (hA q (by have h8 : q = m0 := h9; omega))) (fun r u t H1 locs1 ht hvm hw9 hB hz1 hk1 hS => ?_)
    try dsimp only at hB
    rw [ht] at hB
    rw [hw9]
    replace hw := hw.setK hB hk1
    have ht9 : tw_clear x1 x2 = nI 1 := by unfold tw_clear; rw [if_pos c9]
    refine W.widen (k := 2) (n := 402) (by first | omega | decide) (by first | omega | decide) ?_
    exact W.iret (v := nI 0) hx hb hr (fun t ht _ => ⟨⟨nI 0, (), rfl, by exact fun h9 => absurd (ht9.symm.trans h9) (by decide), by dsimp only; rw [ht]; exact (by rw [ht9]; exact ⟨_, _, hw.o⟩)⟩, hS.F ht⟩) hS.2.2 dX4_clear_24
  · skip
    obtain ⟨k1, hk1, rfl⟩ := inM_ok (n := 7) (by decide) c9
    refine lv_iload_n hx hb dX4_clear_12 rfl (lv_at hl 2 rfl) ?_
    refine vp_callSi (va_runS (As := [.int x2]) (rest := []) ⟨hx, hb, hml, hown, hts⟩ (conX4_isSet l D T x2) (va_cwS 1 hts gX4_clear_X4_isSet rfl rfl rfl (by decide +kernel) ⟨Nat.le_of_ble_eq_true rfl, Nat.le_of_ble_eq_true rfl⟩) (preS hK trivial) rfl rfl hl.1 rfl (lv_room (Nat.le_of_ble_eq_true rfl)) dX4_clear_13 ⟨Nat.le_of_ble_eq_true rfl, Nat.le_of_ble_eq_true rfl⟩).run (fun r2 hr2 => ?_)
    rw [hr2]
    refine lv_if_ne (tgt := 25) hx hb dX4_clear_16 (by decide) (fun c16 => ?_) (fun c16 => ?_)
    · skip
      obtain ⟨k2, hk2, rfl⟩ := inM_ok (n := 7) (by decide) c16
      refine lv_iconst (v := nI 0) hx hb dX4_clear_25 (by decide) ?_
      refine lv_istore_n (lv' := [(3, .int (nI 0)), (0, .ref m0), (1, .int (nI k1)), (2, .int (nI k2))]) hx hb dX4_clear_26 rfl hl (by decide) rfl (fun ls hl => ?_)
      refine lv_iload_n hx hb dX4_clear_27 rfl (lv_at hl 0 rfl) ?_
      refine lv_bipush (v := nI 100) hx hb dX4_clear_28 (by decide) ?_
      refine lv_icmp_gt (tgt := 65) hx hb dX4_clear_30 (by decide) (fun c30 => ?_) (fun c30 => ?_)
      · skip
        have c30 : 100 < 0 := (nc_lt (a := 100) (b := 0) (by omega) (by omega)).mp c30
        omega
      · skip
        have c30 : ¬ (100 < 0) := fun q9 => c30 ((nc_lt (a := 100) (b := 0) (by omega) (by omega)).mpr q9)
        refine lv_aload_n hx hb dX4_clear_33 rfl (lv_at hl 1 rfl) ?_
        refine lv_iload_n hx hb dX4_clear_34 rfl (lv_at hl 2 rfl) ?_
        refine lv_iload_n hx hb dX4_clear_35 rfl (lv_at hl 0 rfl) ?_
        refine lv_ineg hx hb dX4_clear_36 ?_
        refine lv_iload_n hx hb dX4_clear_37 rfl (lv_at hl 3 rfl) ?_
        obtain ⟨b1, hb1⟩ : ∃ z : Nat, z = H1.size := ⟨_, rfl⟩
        have lw_b1 : m0 + 16 ≤ b1 := by have h8 := hw.lt; omega
        have ln_b1 : s.heap.size ≤ b1 := by have h8 := hS.1; omega
        refine va_calli (va_runV (As := [.int (nI k1), .int (-(nI 0)), .int (nI k2)]) (rest := []) ⟨hx, hb, hml, hown, hts⟩ (conX4_isClear l D T b1 m0 (nI 0) k1 k2 (-(nI 0)) (by omega) (by omega)) (cwV 3 hts gX4_clear_X4_isClear rfl rfl rfl (by decide +kernel) ⟨Nat.le_of_ble_eq_true rfl, Nat.le_of_ble_eq_true rfl⟩) (preV hK hw.o rfl ⟨hb1.symm, hw⟩) rfl rfl hl.1 rfl (lv_room (Nat.le_of_ble_eq_true rfl)) dX4_clear_38 ⟨Nat.le_of_ble_eq_true rfl, Nat.le_of_ble_eq_true rfl⟩) hS (fun q _ h9 => (hA q (by have h8 : b1 ≤ q := h9; omega))) (fun q h9 => (hA q (by have h8 : b1 ≤ q := h9; omega))) (fun r u t H1 locs1 ht hvm hw9 hB hz1 hk1 hS => ?_)
        try dsimp only at hB
        rw [ht] at hB
        rw [hw9]
        replace hw := hB
        refine lv_if_eq (tgt := 47) hx hb dX4_clear_41 (by decide) (fun c41 => ?_) (fun c41 => ?_)
        · skip
          have c41 : 1 = 0 := (nc_eq (a := 1) (b := 0) (by omega) (by omega)).mp c41
          omega
        · skip
          have c41 : ¬ (1 = 0) := fun q9 => c41 ((nc_eq (a := 1) (b := 0) (by omega) (by omega)).mpr q9)
          refine lv_iload_n hx hb dX4_clear_44 rfl (lv_at hl 0 rfl) ?_
          refine lv_ineg hx hb dX4_clear_45 ?_
          have ht9 : tw_clear (nI k1) (nI k2) = nI 0 := by unfold tw_clear; rw [if_neg c9, if_neg c16]
          exact W.iret (v := -(nI 0)) hx hb hr (fun t ht _ => ⟨⟨-(nI 0), (), rfl, by intro _; rfl, by dsimp only; rw [ht]; exact (by rw [ht9]; exact ⟨_, _, hw.o⟩)⟩, hS.F ht⟩) hS.2.2 dX4_clear_46
    · skip
      refine lv_aload_n hx hb dX4_clear_19 rfl (lv_at hl 0 rfl) ?_
      refine lv_iconst (v := nI 1) hx hb dX4_clear_20 (by decide) ?_
      refine va_calli (va_runV (As := [.int (nI 1)]) (rest := []) ⟨hx, hb, hml, hown, hts⟩ (conX4_no l D T m0 (nI 0) (nI 1) (.ref (m0 + 1)) (.ref (m0 + 10))) (cwV 1 hts gX4_clear_X4_no rfl rfl rfl (by decide +kernel) ⟨Nat.le_of_ble_eq_true rfl, Nat.le_of_ble_eq_true rfl⟩) (preV hK hw.o rfl hw.o) rfl rfl hl.1 rfl (lv_room (Nat.le_of_ble_eq_true rfl)) dX4_clear_21 ⟨Nat.le_of_ble_eq_true rfl, Nat.le_of_ble_eq_true rfl⟩) hS (fun q _ h9 => (hA q (by have h8 : q = m0 := h9; omega))) (fun q h9 => (hA q (by have h8 : q = m0 := h9; omega))) (fun r u t H1 locs1 ht hvm hw9 hB hz1 hk1 hS => ?_)
      try dsimp only at hB
      rw [ht] at hB
      rw [hw9]
      replace hw := hw.setK hB hk1
      have ht9 : tw_clear (nI k1) x2 = nI 1 := by unfold tw_clear; rw [if_neg c9, if_pos c16]
      refine W.widen (k := 2) (n := 402) (by first | omega | decide) (by first | omega | decide) ?_
      exact W.iret (v := nI 0) hx hb hr (fun t ht _ => ⟨⟨nI 0, (), rfl, by exact fun h9 => absurd (ht9.symm.trans h9) (by decide), by dsimp only; rw [ht]; exact (by rw [ht9]; exact ⟨_, _, hw.o⟩)⟩, hS.F ht⟩) hS.2.2 dX4_clear_24

set_option maxHeartbeats 4000000 in
set_option maxRecDepth 100000 in
theorem conX4_best (l : Launch) (D : va_G) (T : Nat → ClassId) (sz m0 : Nat) (th x1 x2 : Int32) : Met l yX4_best wsX4_best ({ frames := 2, cells := 0, slots := 0, locals := 42 }) (cP D T [.ref m0, .int x1, .int x2] (fun H => H.size = sz ∧ MF D T m0 th H)) (va_Qi (fun (r : Int32) (_ : Unit) => tw_best x1 x2 = nI 0 → r = nI 0) (fun _ t => MT D m0 (tw_best x1 x2) t.heap) (MA m0 sz)) 0 0 (MA m0 sz) := by
  refine Met.ofW (cc := cX4_best) (maxL := 5) (ret := (some .int)) (by decide) rfl ?_
  intro p e s m args below meth c s₁ B hml hv9
  obtain ⟨rfl, hK, hsz, hw⟩ := hv9
  have hx := B.exec
  have hb := B.bytes
  have hr := B.returns
  have hts := atoms_spec (ws := wsX4_best) B.pre
  have hown : s.vm.findClass RX4 = some m.cls := findClass_of_methodNamed B.named
  have hlocks := B.notSynchronized
  have hin4 : ∀ w ∈ wsX40, w ∈ wsX4_best := by decide +kernel
  generalize hAe : (MA m0 sz) = A
  have hA : ∀ q : Nat, ((m0 ≤ q ∧ q < m0 + 16) ∨ s.heap.size ≤ q) → A q := fun q h9 => by subst hAe; show (m0 ≤ q ∧ q < m0 + 16) ∨ sz ≤ q; omega
  have hS : va_S A s.heap s.heap [] := va_S.rf
  have hl := lv_entry ([.ref m0, .int x1, .int x2]) (n := 5) (Nat.le_of_ble_eq_true rfl)
  rw [lg_entry_eq]
  generalize (lg_sl ([.ref m0, .int x1, .int x2]) ++ List.replicate (5 - (lg_sl ([.ref m0, .int x1, .int x2])).length) Slot.unset).toArray = ls at hl ⊢
  have hl : lv_has ls 5 [(0, .ref m0), (1, .int x1), (2, .int x2)] := hl
  refine lv_aload_n hx hb dX4_best_0 rfl (lv_at hl 0 rfl) ?_
  refine lv_iconst (v := nI 0) hx hb dX4_best_1 (by decide) ?_
  refine q_put (v := .int (nI 0)) hx hb hts hin4 tyX4 tyX4_ok nmX4 hown hK hw.o rfl 0 (by decide) (hts (.fieldLink RX4 19 "PuddingstoneLineModel" "thrown" "I") (by decide +kernel)) (fun _ h9 => h9) rfl rfl rfl (Nat.le_of_ble_eq_true rfl) hS (hA _ (by omega)) dX4_best_2 (fun H1 locs1 hw9 oq hS => ?_)
  replace hw := hw.setO hw9 oq
  refine lv_iload_n hx hb dX4_best_5 rfl (lv_at hl 1 rfl) ?_
  refine vp_callSi (va_runS (As := [.int x1]) (rest := []) ⟨hx, hb, hml, hown, hts⟩ (conX4_isFunction l D T x1) (va_cwS 1 hts gX4_best_X4_isFunction rfl rfl rfl (by decide +kernel) ⟨Nat.le_of_ble_eq_true rfl, Nat.le_of_ble_eq_true rfl⟩) (preS hK trivial) rfl rfl hl.1 rfl (lv_room (Nat.le_of_ble_eq_true rfl)) dX4_best_6 ⟨Nat.le_of_ble_eq_true rfl, Nat.le_of_ble_eq_true rfl⟩).run (fun r1 hr1 => ?_)
  rw [hr1]
  refine lv_if_ne (tgt := 18) hx hb dX4_best_9 (by decide) (fun c9 => ?_) (fun c9 => ?_)
  · skip
    obtain ⟨k1, hk1, rfl⟩ := inM_ok (n := 4) (by decide) c9
    refine lv_iload_n hx hb dX4_best_18 rfl (lv_at hl 2 rfl) ?_
    refine lv_iconst (v := nI 1) hx hb dX4_best_19 (by decide) ?_
    refine lv_bipush (v := nI 100) hx hb dX4_best_20 (by decide) ?_
    refine vp_callSi (va_runS (As := [.int x2, .int (nI 1), .int (nI 100)]) (rest := []) ⟨hx, hb, hml, hown, hts⟩ (conX4_isIn l D T x2 (nI 1) (nI 100)) (va_cwS 3 hts gX4_best_X4_isIn rfl rfl rfl (by decide +kernel) ⟨Nat.le_of_ble_eq_true rfl, Nat.le_of_ble_eq_true rfl⟩) (preS hK trivial) rfl rfl hl.1 rfl (lv_room (Nat.le_of_ble_eq_true rfl)) dX4_best_22 ⟨Nat.le_of_ble_eq_true rfl, Nat.le_of_ble_eq_true rfl⟩).run (fun r2 hr2 => ?_)
    rw [hr2]
    refine lv_if_ne (tgt := 34) hx hb dX4_best_25 (by decide) (fun c25 => ?_) (fun c25 => ?_)
    · skip
      obtain ⟨k2, hj2, hk2, rfl⟩ := inM_okL (m := 1) (n := 100) (by decide) (by decide) c25
      refine lv_iconst (v := nI 0) hx hb dX4_best_34 (by decide) ?_
      refine lv_istore_n (lv' := [(3, .int (nI 0)), (0, .ref m0), (1, .int (nI k1)), (2, .int (nI k2))]) hx hb dX4_best_35 rfl hl (by decide) rfl (fun ls hl => ?_)
      refine lv_iconst (v := nI 1) hx hb dX4_best_36 (by decide) ?_
      refine lv_istore (lv' := [(4, .int (nI 1)), (3, .int (nI 0)), (0, .ref m0), (1, .int (nI k1)), (2, .int (nI k2))]) hx hb dX4_best_37 hl (by decide) rfl (fun ls hl => ?_)
      refine q_for (fun (i : Nat) (H : Heap) (locs : List Loc) (ls : Array Slot) => va_S A s.heap H locs ∧ lv_has ls 5 [(4, .int (nI i)), (3, .int (nI 0)), (0, .ref m0), (1, .int (nI k1)), (2, .int (nI k2))] ∧ MF D T m0 (nI 0) H) (N := (101 - k2)) 1 (by omega) ?_ ?_ ?_
      · skip
        exact ⟨hS, lv_sub hl [0, 1, 2, 3, 4] rfl, hw⟩
      · skip
        intro i H locs ls hi9 hin9 hnext
        obtain ⟨hS, hl, hw⟩ := hin9
        refine lv_iload hx hb dX4_best_39 (lv_at hl 0 rfl) ?_
        refine lv_iload_n hx hb dX4_best_41 rfl (lv_at hl 4 rfl) ?_
        refine lv_iadd hx hb dX4_best_42 ?_
        rw [nI_add]
        refine lv_bipush (v := nI 100) hx hb dX4_best_43 (by decide) ?_
        refine lv_icmp_gt (tgt := 96) hx hb dX4_best_45 (by decide) (fun c45 => ?_) (fun c45 => ?_)
        · skip
          have c45 : 100 < i + k2 := (nc_lt (a := 100) (b := i + k2) (by omega) (by omega)).mp c45
          omega
        · skip
          have c45 : ¬ (100 < i + k2) := fun q9 => c45 ((nc_lt (a := 100) (b := i + k2) (by omega) (by omega)).mpr q9)
          refine lv_aload_n hx hb dX4_best_48 rfl (lv_at hl 2 rfl) ?_
          refine q_get (v := .ref (m0 + 10)) hx hb hts hin4 hown hK hw.o rfl 2 (by decide) (hts (.fieldLink RX4 16 "PuddingstoneLineModel" "values" "[[I") (by decide +kernel)) (fun _ h9 => h9) rfl dX4_best_49 ?_
          refine lv_iload_n hx hb dX4_best_52 rfl (lv_at hl 3 rfl) ?_
          refine q_aald hx hb hK 5 rfl rfl hw.v k1 (rfl) (by omega) (by decide) (b := m0 + 11 + k1) rfl dX4_best_53 ?_
          refine lv_iconst (v := nI 2) hx hb dX4_best_54 (by decide) ?_
          refine lv_iload hx hb dX4_best_55 (lv_at hl 0 rfl) ?_
          refine lv_imul hx hb dX4_best_57 ?_
          rw [pk_mul]
          refine lv_iconst (v := nI 2) hx hb dX4_best_58 (by decide) ?_
          refine lv_iload hx hb dX4_best_59 (lv_at hl 0 rfl) ?_
          refine lv_iload_n hx hb dX4_best_61 rfl (lv_at hl 4 rfl) ?_
          refine lv_iadd hx hb dX4_best_62 ?_
          rw [nI_add]
          refine lv_imul hx hb dX4_best_63 ?_
          rw [pk_mul]
          refine vp_callSi (va_runS (As := [.ref (m0 + 11 + k1), .int (nI (2 * i)), .int (nI (2 * (i + k2)))]) (rest := []) ⟨hx, hb, hml, hown, hts⟩ (conX4_areaOf l D T (m0 + 11 + k1) (2 * i) (2 * (i + k2)) (by omega) (by omega)) (va_cwS 3 hts gX4_best_X4_areaOf rfl rfl rfl (by decide +kernel) ⟨Nat.le_of_ble_eq_true rfl, Nat.le_of_ble_eq_true rfl⟩) (preS hK ((hw.g k1 (by omega)))) rfl rfl hl.1 rfl (lv_room (Nat.le_of_ble_eq_true rfl)) dX4_best_64 ⟨Nat.le_of_ble_eq_true rfl, Nat.le_of_ble_eq_true rfl⟩).run (fun r3 hr3 => ?_)
          rw [hr3]
          refine lv_aload_n hx hb dX4_best_67 rfl (lv_at hl 2 rfl) ?_
          refine q_get (v := .ref (m0 + 10)) hx hb hts hin4 hown hK hw.o rfl 2 (by decide) (hts (.fieldLink RX4 16 "PuddingstoneLineModel" "values" "[[I") (by decide +kernel)) (fun _ h9 => h9) rfl dX4_best_68 ?_
          refine lv_iload_n hx hb dX4_best_71 rfl (lv_at hl 3 rfl) ?_
          refine q_aald hx hb hK 5 rfl rfl hw.v k1 (rfl) (by omega) (by decide) (b := m0 + 11 + k1) rfl dX4_best_72 ?_
          refine lv_iconst (v := nI 2) hx hb dX4_best_73 (by decide) ?_
          refine lv_iload_n hx hb dX4_best_74 rfl (lv_at hl 1 rfl) ?_
          refine lv_imul hx hb dX4_best_75 ?_
          rw [pk_mul]
          refine lv_iconst (v := nI 2) hx hb dX4_best_76 (by decide) ?_
          refine lv_iload_n hx hb dX4_best_77 rfl (lv_at hl 1 rfl) ?_
          refine lv_iload_n hx hb dX4_best_78 rfl (lv_at hl 4 rfl) ?_
          refine lv_iadd hx hb dX4_best_79 ?_
          rw [nI_add]
          refine lv_imul hx hb dX4_best_80 ?_
          rw [pk_mul]
          refine vp_callSi (va_runS (As := [.ref (m0 + 11 + k1), .int (nI 0), .int (nI (2 * (0 + k2)))]) (rest := [.int (nI 0)]) ⟨hx, hb, hml, hown, hts⟩ (conX4_areaOf l D T (m0 + 11 + k1) 0 (2 * (0 + k2)) (by omega) (by omega)) (va_cwS 3 hts gX4_best_X4_areaOf rfl rfl rfl (by decide +kernel) ⟨Nat.le_of_ble_eq_true rfl, Nat.le_of_ble_eq_true rfl⟩) (preS hK ((hw.g k1 (by omega)))) rfl rfl hl.1 rfl (lv_room (Nat.le_of_ble_eq_true rfl)) dX4_best_81 ⟨Nat.le_of_ble_eq_true rfl, Nat.le_of_ble_eq_true rfl⟩).run (fun r4 hr4 => ?_)
          rw [hr4]
          refine lv_icmp_le (tgt := 90) hx hb dX4_best_84 (by decide) (fun c84 => ?_) (fun c84 => ?_)
          · skip
            have c84 : 0 ≤ 0 := (nc_le (a := 0) (b := 0) (by omega) (by omega)).mp c84
            refine lv_iinc (v := nI (i + 1)) (lv' := [(4, .int (nI (i + 1))), (3, .int (nI 0)), (0, .ref m0), (1, .int (nI k1)), (2, .int (nI k2))]) hx hb dX4_best_90 hl (k := 0) rfl (inc_1 _) (by decide) rfl (fun ls hl => ?_)
            refine lv_goto (tgt := 39) hx hb dX4_best_93 (by decide) ?_
            exact hnext _ _ _ ⟨hS, lv_sub hl [0, 1, 2, 3, 4] rfl, hw⟩
          · skip
            have c84 : ¬ (0 ≤ 0) := fun q9 => c84 ((nc_le (a := 0) (b := 0) (by omega) (by omega)).mpr q9)
            omega
      · skip
        intro H locs ls hin9
        obtain ⟨hS, hl, hw⟩ := hin9
        refine lv_iload hx hb dX4_best_39 (lv_at hl 0 rfl) ?_
        refine lv_iload_n hx hb dX4_best_41 rfl (lv_at hl 4 rfl) ?_
        refine lv_iadd hx hb dX4_best_42 ?_
        rw [nI_add]
        refine lv_bipush (v := nI 100) hx hb dX4_best_43 (by decide) ?_
        refine lv_icmp_gt (tgt := 96) hx hb dX4_best_45 (by decide) (fun c45 => ?_) (fun c45 => ?_)
        · skip
          have c45 : 100 < (101 - k2) + k2 := (nc_lt (a := 100) (b := (101 - k2) + k2) (by omega) (by omega)).mp c45
          refine lv_iload_n hx hb dX4_best_96 rfl (lv_at hl 1 rfl) ?_
          have ht9 : tw_best (nI k1) (nI k2) = nI 0 := by unfold tw_best; rw [if_neg c9, if_neg c25]
          exact W.iret (v := nI 0) hx hb hr (fun t ht _ => ⟨⟨nI 0, (), rfl, by intro _; rfl, by dsimp only; rw [ht]; exact (by rw [ht9]; exact ⟨_, _, hw.o⟩)⟩, hS.F ht⟩) hS.2.2 dX4_best_97
        · skip
          have c45 : ¬ (100 < (101 - k2) + k2) := fun q9 => c45 ((nc_lt (a := 100) (b := (101 - k2) + k2) (by omega) (by omega)).mpr q9)
          omega
    · skip
      refine lv_aload_n hx hb dX4_best_28 rfl (lv_at hl 0 rfl) ?_
      refine lv_iconst (v := nI 2) hx hb dX4_best_29 (by decide) ?_
      refine va_calli (va_runV (As := [.int (nI 2)]) (rest := []) ⟨hx, hb, hml, hown, hts⟩ (conX4_no l D T m0 (nI 0) (nI 2) (.ref (m0 + 1)) (.ref (m0 + 10))) (cwV 1 hts gX4_best_X4_no rfl rfl rfl (by decide +kernel) ⟨Nat.le_of_ble_eq_true rfl, Nat.le_of_ble_eq_true rfl⟩) (preV hK hw.o rfl hw.o) rfl rfl hl.1 rfl (lv_room (Nat.le_of_ble_eq_true rfl)) dX4_best_30 ⟨Nat.le_of_ble_eq_true rfl, Nat.le_of_ble_eq_true rfl⟩) hS (fun q _ h9 => (hA q (by have h8 : q = m0 := h9; omega))) (fun q h9 => (hA q (by have h8 : q = m0 := h9; omega))) (fun r u t H1 locs1 ht hvm hw9 hB hz1 hk1 hS => ?_)
      try dsimp only at hB
      rw [ht] at hB
      rw [hw9]
      replace hw := hw.setK hB hk1
      have ht9 : tw_best (nI k1) x2 = nI 2 := by unfold tw_best; rw [if_neg c9, if_pos c25]
      exact W.iret (v := nI 0) hx hb hr (fun t ht _ => ⟨⟨nI 0, (), rfl, by exact fun h9 => absurd (ht9.symm.trans h9) (by decide), by dsimp only; rw [ht]; exact (by rw [ht9]; exact ⟨_, _, hw.o⟩)⟩, hS.F ht⟩) hS.2.2 dX4_best_33
  · skip
    refine lv_aload_n hx hb dX4_best_12 rfl (lv_at hl 0 rfl) ?_
    refine lv_iconst (v := nI 1) hx hb dX4_best_13 (by decide) ?_
    refine va_calli (va_runV (As := [.int (nI 1)]) (rest := []) ⟨hx, hb, hml, hown, hts⟩ (conX4_no l D T m0 (nI 0) (nI 1) (.ref (m0 + 1)) (.ref (m0 + 10))) (cwV 1 hts gX4_best_X4_no rfl rfl rfl (by decide +kernel) ⟨Nat.le_of_ble_eq_true rfl, Nat.le_of_ble_eq_true rfl⟩) (preV hK hw.o rfl hw.o) rfl rfl hl.1 rfl (lv_room (Nat.le_of_ble_eq_true rfl)) dX4_best_14 ⟨Nat.le_of_ble_eq_true rfl, Nat.le_of_ble_eq_true rfl⟩) hS (fun q _ h9 => (hA q (by have h8 : q = m0 := h9; omega))) (fun q h9 => (hA q (by have h8 : q = m0 := h9; omega))) (fun r u t H1 locs1 ht hvm hw9 hB hz1 hk1 hS => ?_)
    try dsimp only at hB
    rw [ht] at hB
    rw [hw9]
    replace hw := hw.setK hB hk1
    have ht9 : tw_best x1 x2 = nI 1 := by unfold tw_best; rw [if_pos c9]
    exact W.iret (v := nI 0) hx hb hr (fun t ht _ => ⟨⟨nI 0, (), rfl, by exact fun h9 => absurd (ht9.symm.trans h9) (by decide), by dsimp only; rw [ht]; exact (by rw [ht9]; exact ⟨_, _, hw.o⟩)⟩, hS.F ht⟩) hS.2.2 dX4_best_17

set_option maxHeartbeats 4000000 in
set_option maxRecDepth 100000 in
theorem conX4_saves (l : Launch) (D : va_G) (T : Nat → ClassId) (sz m0 : Nat) (th x1 x2 x3 : Int32) : Met l yX4_saves wsX4_saves ({ frames := 2, cells := 4, slots := 402, locals := 90 }) (cP D T [.ref m0, .int x1, .int x2, .int x3] (fun H => H.size = sz ∧ MF D T m0 th H)) (va_Qi (fun (r : Int32) (_ : Unit) => tw_saves x1 x2 x3 = nI 0 → r = nI 0) (fun _ t => MT D m0 (tw_saves x1 x2 x3) t.heap) (MA m0 sz)) 4 402 (MA m0 sz) := by
  refine Met.ofW (cc := cX4_saves) (maxL := 6) (ret := (some .int)) (by decide) rfl ?_
  intro p e s m args below meth c s₁ B hml hv9
  obtain ⟨rfl, hK, hsz, hw⟩ := hv9
  have hx := B.exec
  have hb := B.bytes
  have hr := B.returns
  have hts := atoms_spec (ws := wsX4_saves) B.pre
  have hown : s.vm.findClass RX4 = some m.cls := findClass_of_methodNamed B.named
  have hlocks := B.notSynchronized
  have hin4 : ∀ w ∈ wsX40, w ∈ wsX4_saves := by decide +kernel
  generalize hAe : (MA m0 sz) = A
  have hA : ∀ q : Nat, ((m0 ≤ q ∧ q < m0 + 16) ∨ s.heap.size ≤ q) → A q := fun q h9 => by subst hAe; show (m0 ≤ q ∧ q < m0 + 16) ∨ sz ≤ q; omega
  have hS : va_S A s.heap s.heap [] := va_S.rf
  have hl := lv_entry ([.ref m0, .int x1, .int x2, .int x3]) (n := 6) (Nat.le_of_ble_eq_true rfl)
  rw [lg_entry_eq]
  generalize (lg_sl ([.ref m0, .int x1, .int x2, .int x3]) ++ List.replicate (6 - (lg_sl ([.ref m0, .int x1, .int x2, .int x3])).length) Slot.unset).toArray = ls at hl ⊢
  have hl : lv_has ls 6 [(0, .ref m0), (1, .int x1), (2, .int x2), (3, .int x3)] := hl
  refine lv_aload_n hx hb dX4_saves_0 rfl (lv_at hl 0 rfl) ?_
  refine lv_iconst (v := nI 0) hx hb dX4_saves_1 (by decide) ?_
  refine q_put (v := .int (nI 0)) hx hb hts hin4 tyX4 tyX4_ok nmX4 hown hK hw.o rfl 0 (by decide) (hts (.fieldLink RX4 19 "PuddingstoneLineModel" "thrown" "I") (by decide +kernel)) (fun _ h9 => h9) rfl rfl rfl (Nat.le_of_ble_eq_true rfl) hS (hA _ (by omega)) dX4_saves_2 (fun H1 locs1 hw9 oq hS => ?_)
  replace hw := hw.setO hw9 oq
  refine lv_iload_n hx hb dX4_saves_5 rfl (lv_at hl 2 rfl) ?_
  refine vp_callSi (va_runS (As := [.int x2]) (rest := []) ⟨hx, hb, hml, hown, hts⟩ (conX4_isSet l D T x2) (va_cwS 1 hts gX4_saves_X4_isSet rfl rfl rfl (by decide +kernel) ⟨Nat.le_of_ble_eq_true rfl, Nat.le_of_ble_eq_true rfl⟩) (preS hK trivial) rfl rfl hl.1 rfl (lv_room (Nat.le_of_ble_eq_true rfl)) dX4_saves_6 ⟨Nat.le_of_ble_eq_true rfl, Nat.le_of_ble_eq_true rfl⟩).run (fun r1 hr1 => ?_)
  rw [hr1]
  refine lv_if_eq (tgt := 19) hx hb dX4_saves_9 (by decide) (fun c9 => ?_) (fun c9 => ?_)
  · skip
    refine lv_aload_n hx hb dX4_saves_19 rfl (lv_at hl 0 rfl) ?_
    refine lv_iconst (v := nI 1) hx hb dX4_saves_20 (by decide) ?_
    refine va_calli (va_runV (As := [.int (nI 1)]) (rest := []) ⟨hx, hb, hml, hown, hts⟩ (conX4_no l D T m0 (nI 0) (nI 1) (.ref (m0 + 1)) (.ref (m0 + 10))) (cwV 1 hts gX4_saves_X4_no rfl rfl rfl (by decide +kernel) ⟨Nat.le_of_ble_eq_true rfl, Nat.le_of_ble_eq_true rfl⟩) (preV hK hw.o rfl hw.o) rfl rfl hl.1 rfl (lv_room (Nat.le_of_ble_eq_true rfl)) dX4_saves_21 ⟨Nat.le_of_ble_eq_true rfl, Nat.le_of_ble_eq_true rfl⟩) hS (fun q _ h9 => (hA q (by have h8 : q = m0 := h9; omega))) (fun q h9 => (hA q (by have h8 : q = m0 := h9; omega))) (fun r u t H1 locs1 ht hvm hw9 hB hz1 hk1 hS => ?_)
    try dsimp only at hB
    rw [ht] at hB
    rw [hw9]
    replace hw := hw.setK hB hk1
    have ht9 : tw_saves x1 x2 x3 = nI 1 := by unfold tw_saves; rw [if_pos c9]
    refine W.widen (k := 4) (n := 402) (by first | omega | decide) (by first | omega | decide) ?_
    exact W.iret (v := nI 0) hx hb hr (fun t ht _ => ⟨⟨nI 0, (), rfl, by exact fun h9 => absurd (ht9.symm.trans h9) (by decide), by dsimp only; rw [ht]; exact (by rw [ht9]; exact ⟨_, _, hw.o⟩)⟩, hS.F ht⟩) hS.2.2 dX4_saves_24
  · skip
    obtain ⟨k2, hk2, rfl⟩ := inM_ok (n := 7) (by decide) c9
    refine lv_iload_n hx hb dX4_saves_12 rfl (lv_at hl 3 rfl) ?_
    refine vp_callSi (va_runS (As := [.int x3]) (rest := []) ⟨hx, hb, hml, hown, hts⟩ (conX4_isSet l D T x3) (va_cwS 1 hts gX4_saves_X4_isSet rfl rfl rfl (by decide +kernel) ⟨Nat.le_of_ble_eq_true rfl, Nat.le_of_ble_eq_true rfl⟩) (preS hK trivial) rfl rfl hl.1 rfl (lv_room (Nat.le_of_ble_eq_true rfl)) dX4_saves_13 ⟨Nat.le_of_ble_eq_true rfl, Nat.le_of_ble_eq_true rfl⟩).run (fun r2 hr2 => ?_)
    rw [hr2]
    refine lv_if_ne (tgt := 25) hx hb dX4_saves_16 (by decide) (fun c16 => ?_) (fun c16 => ?_)
    · skip
      obtain ⟨k3, hk3, rfl⟩ := inM_ok (n := 7) (by decide) c16
      refine lv_iload_n hx hb dX4_saves_25 rfl (lv_at hl 1 rfl) ?_
      refine lv_iconst (v := nI 0) hx hb dX4_saves_26 (by decide) ?_
      refine lv_sipush (v := nI 255) hx hb dX4_saves_27 (by decide) ?_
      refine vp_callSi (va_runS (As := [.int x1, .int (nI 0), .int (nI 255)]) (rest := []) ⟨hx, hb, hml, hown, hts⟩ (conX4_isIn l D T x1 (nI 0) (nI 255)) (va_cwS 3 hts gX4_saves_X4_isIn rfl rfl rfl (by decide +kernel) ⟨Nat.le_of_ble_eq_true rfl, Nat.le_of_ble_eq_true rfl⟩) (preS hK trivial) rfl rfl hl.1 rfl (lv_room (Nat.le_of_ble_eq_true rfl)) dX4_saves_30 ⟨Nat.le_of_ble_eq_true rfl, Nat.le_of_ble_eq_true rfl⟩).run (fun r3 hr3 => ?_)
      rw [hr3]
      refine lv_if_ne (tgt := 42) hx hb dX4_saves_33 (by decide) (fun c33 => ?_) (fun c33 => ?_)
      · skip
        obtain ⟨k1, hk1, rfl⟩ := inM_ok (n := 255) (by decide) c33
        refine lv_aload_n hx hb dX4_saves_42 rfl (lv_at hl 0 rfl) ?_
        refine lv_iload_n hx hb dX4_saves_43 rfl (lv_at hl 1 rfl) ?_
        refine lv_iload_n hx hb dX4_saves_44 rfl (lv_at hl 2 rfl) ?_
        obtain ⟨b1, hb1⟩ : ∃ z : Nat, z = H1.size := ⟨_, rfl⟩
        have lw_b1 : m0 + 16 ≤ b1 := by have h8 := hw.lt; omega
        have ln_b1 : s.heap.size ≤ b1 := by have h8 := hS.1; omega
        refine va_callr (va_runV (As := [.int (nI k1), .int (nI k2)]) (rest := []) ⟨hx, hb, hml, hown, hts⟩ (conX4_coverNow l D T b1 m0 (nI 0) (nI k1) k2 (by omega)) (cwV 2 hts gX4_saves_X4_coverNow rfl rfl rfl (by decide +kernel) ⟨Nat.le_of_ble_eq_true rfl, Nat.le_of_ble_eq_true rfl⟩) (preV hK hw.o rfl ⟨hb1.symm, hw⟩) rfl rfl hl.1 rfl (lv_room (Nat.le_of_ble_eq_true rfl)) dX4_saves_45 ⟨Nat.le_of_ble_eq_true rfl, Nat.le_of_ble_eq_true rfl⟩) hS (fun q _ h9 => (hA q (by have h8 : b1 ≤ q := h9; omega))) (fun q h9 => (hA q (by have h8 : b1 ≤ q := h9; omega))) (fun u ra t H1 locs1 ht hvm hw9 hB hz1 hk1 hS => ?_)
        try dsimp only at hB
        rw [ht] at hB
        obtain ⟨a4, rfl⟩ : ∃ z, z = ra := ⟨_, rfl⟩
        obtain ⟨hz_a4, na4⟩ := hB
        replace hw := hw.kept hk1 (fun q h7 h8 (h9 : b1 ≤ q) => by omega)
        refine vp_callSi (va_runS (As := [.ref a4]) (rest := []) ⟨hx, hb, hml, hown, hts⟩ (conX4_size l D T a4) (va_cwS 1 hts gX4_saves_X4_size rfl rfl rfl (by decide +kernel) ⟨Nat.le_of_ble_eq_true rfl, Nat.le_of_ble_eq_true rfl⟩) (preS hK na4) rfl rfl hl.1 rfl (lv_room (Nat.le_of_ble_eq_true rfl)) dX4_saves_48 ⟨Nat.le_of_ble_eq_true rfl, Nat.le_of_ble_eq_true rfl⟩).run (fun r5 hr5 => ?_)
        rw [hr5]
        refine lv_istore (lv' := [(4, .int (nI 0)), (0, .ref m0), (1, .int (nI k1)), (2, .int (nI k2)), (3, .int (nI k3))]) hx hb dX4_saves_51 hl (by decide) rfl (fun ls hl => ?_)
        refine lv_aload_n hx hb dX4_saves_53 rfl (lv_at hl 1 rfl) ?_
        refine lv_iload_n hx hb dX4_saves_54 rfl (lv_at hl 2 rfl) ?_
        refine lv_iconst (v := nI 1) hx hb dX4_saves_55 (by decide) ?_
        refine lv_iload_n hx hb dX4_saves_56 rfl (lv_at hl 4 rfl) ?_
        refine lv_ishl hx hb dX4_saves_57 ?_
        refine lv_ior hx hb dX4_saves_58 ?_
        refine lv_iload_n hx hb dX4_saves_59 rfl (lv_at hl 3 rfl) ?_
        obtain ⟨b2, hb2⟩ : ∃ z : Nat, z = H1.size := ⟨_, rfl⟩
        have lna4_b2 : a4 < b2 := by have h8 := na4.lt; omega
        have lw_b2 : m0 + 16 ≤ b2 := by have h8 := hw.lt; omega
        have ln_b2 : s.heap.size ≤ b2 := by have h8 := hS.1; omega
        refine va_callr (va_runV (As := [.int ((nI k1) ||| ((nI 1) <<< ((nI k3) &&& 31))), .int (nI k2)]) (rest := []) ⟨hx, hb, hml, hown, hts⟩ (conX4_coverNow l D T b2 m0 (nI 0) ((nI k1) ||| ((nI 1) <<< ((nI k3) &&& 31))) k2 (by omega)) (cwV 2 hts gX4_saves_X4_coverNow rfl rfl rfl (by decide +kernel) ⟨Nat.le_of_ble_eq_true rfl, Nat.le_of_ble_eq_true rfl⟩) (preV hK hw.o rfl ⟨hb2.symm, hw⟩) rfl rfl hl.1 rfl (lv_room (Nat.le_of_ble_eq_true rfl)) dX4_saves_60 ⟨Nat.le_of_ble_eq_true rfl, Nat.le_of_ble_eq_true rfl⟩) hS (fun q _ h9 => (hA q (by have h8 : b2 ≤ q := h9; omega))) (fun q h9 => (hA q (by have h8 : b2 ≤ q := h9; omega))) (fun u ra t H1 locs1 ht hvm hw9 hB hz1 hk1 hS => ?_)
        try dsimp only at hB
        rw [ht] at hB
        obtain ⟨a6, rfl⟩ : ∃ z, z = ra := ⟨_, rfl⟩
        obtain ⟨hz_a6, na6⟩ := hB
        replace na4 := na4.kept (hk1 _ na4.lt (fun (h9 : b2 ≤ _) => by omega))
        replace hw := hw.kept hk1 (fun q h7 h8 (h9 : b2 ≤ q) => by omega)
        refine vp_callSi (va_runS (As := [.ref a6]) (rest := []) ⟨hx, hb, hml, hown, hts⟩ (conX4_size l D T a6) (va_cwS 1 hts gX4_saves_X4_size rfl rfl rfl (by decide +kernel) ⟨Nat.le_of_ble_eq_true rfl, Nat.le_of_ble_eq_true rfl⟩) (preS hK na6) rfl rfl hl.1 rfl (lv_room (Nat.le_of_ble_eq_true rfl)) dX4_saves_63 ⟨Nat.le_of_ble_eq_true rfl, Nat.le_of_ble_eq_true rfl⟩).run (fun r7 hr7 => ?_)
        rw [hr7]
        refine lv_istore (lv' := [(5, .int (nI 0)), (4, .int (nI 0)), (0, .ref m0), (1, .int (nI k1)), (2, .int (nI k2)), (3, .int (nI k3))]) hx hb dX4_saves_66 hl (by decide) rfl (fun ls hl => ?_)
        refine lv_iload hx hb dX4_saves_68 (lv_at hl 0 rfl) ?_
        refine lv_iconst (v := (-1)) hx hb dX4_saves_70 (by decide) ?_
        refine lv_icmp_ne (tgt := 78) hx hb dX4_saves_71 (by decide) (fun c71 => ?_) (fun c71 => ?_)
        · skip
          refine lv_iload hx hb dX4_saves_78 (lv_at hl 1 rfl) ?_
          refine lv_iconst (v := (-1)) hx hb dX4_saves_80 (by decide) ?_
          refine lv_icmp_ne (tgt := 90) hx hb dX4_saves_81 (by decide) (fun c81 => ?_) (fun c81 => ?_)
          · skip
            refine lv_iload hx hb dX4_saves_90 (lv_at hl 1 rfl) ?_
            refine lv_iload hx hb dX4_saves_92 (lv_at hl 0 rfl) ?_
            refine lv_isub hx hb dX4_saves_94 ?_
            rw [pk_sub (a := 0) (b := 0) (by omega)]
            have ht9 : tw_saves (nI k1) (nI k2) (nI k3) = nI 0 := by unfold tw_saves; rw [if_neg c9, if_neg c16, if_neg c33]
            exact W.iret (v := nI 0) hx hb hr (fun t ht _ => ⟨⟨nI 0, (), rfl, by intro _; rfl, by dsimp only; rw [ht]; exact (by rw [ht9]; exact ⟨_, _, hw.o⟩)⟩, hS.F ht⟩) hS.2.2 dX4_saves_95
          · skip
            exact absurd c81 (by decide)
        · skip
          exact absurd c71 (by decide)
      · skip
        refine lv_aload_n hx hb dX4_saves_36 rfl (lv_at hl 0 rfl) ?_
        refine lv_iconst (v := nI 2) hx hb dX4_saves_37 (by decide) ?_
        refine va_calli (va_runV (As := [.int (nI 2)]) (rest := []) ⟨hx, hb, hml, hown, hts⟩ (conX4_no l D T m0 (nI 0) (nI 2) (.ref (m0 + 1)) (.ref (m0 + 10))) (cwV 1 hts gX4_saves_X4_no rfl rfl rfl (by decide +kernel) ⟨Nat.le_of_ble_eq_true rfl, Nat.le_of_ble_eq_true rfl⟩) (preV hK hw.o rfl hw.o) rfl rfl hl.1 rfl (lv_room (Nat.le_of_ble_eq_true rfl)) dX4_saves_38 ⟨Nat.le_of_ble_eq_true rfl, Nat.le_of_ble_eq_true rfl⟩) hS (fun q _ h9 => (hA q (by have h8 : q = m0 := h9; omega))) (fun q h9 => (hA q (by have h8 : q = m0 := h9; omega))) (fun r u t H1 locs1 ht hvm hw9 hB hz1 hk1 hS => ?_)
        try dsimp only at hB
        rw [ht] at hB
        rw [hw9]
        replace hw := hw.setK hB hk1
        have ht9 : tw_saves x1 (nI k2) (nI k3) = nI 2 := by unfold tw_saves; rw [if_neg c9, if_neg c16, if_pos c33]
        refine W.widen (k := 4) (n := 402) (by first | omega | decide) (by first | omega | decide) ?_
        exact W.iret (v := nI 0) hx hb hr (fun t ht _ => ⟨⟨nI 0, (), rfl, by exact fun h9 => absurd (ht9.symm.trans h9) (by decide), by dsimp only; rw [ht]; exact (by rw [ht9]; exact ⟨_, _, hw.o⟩)⟩, hS.F ht⟩) hS.2.2 dX4_saves_41
    · skip
      refine lv_aload_n hx hb dX4_saves_19 rfl (lv_at hl 0 rfl) ?_
      refine lv_iconst (v := nI 1) hx hb dX4_saves_20 (by decide) ?_
      refine va_calli (va_runV (As := [.int (nI 1)]) (rest := []) ⟨hx, hb, hml, hown, hts⟩ (conX4_no l D T m0 (nI 0) (nI 1) (.ref (m0 + 1)) (.ref (m0 + 10))) (cwV 1 hts gX4_saves_X4_no rfl rfl rfl (by decide +kernel) ⟨Nat.le_of_ble_eq_true rfl, Nat.le_of_ble_eq_true rfl⟩) (preV hK hw.o rfl hw.o) rfl rfl hl.1 rfl (lv_room (Nat.le_of_ble_eq_true rfl)) dX4_saves_21 ⟨Nat.le_of_ble_eq_true rfl, Nat.le_of_ble_eq_true rfl⟩) hS (fun q _ h9 => (hA q (by have h8 : q = m0 := h9; omega))) (fun q h9 => (hA q (by have h8 : q = m0 := h9; omega))) (fun r u t H1 locs1 ht hvm hw9 hB hz1 hk1 hS => ?_)
      try dsimp only at hB
      rw [ht] at hB
      rw [hw9]
      replace hw := hw.setK hB hk1
      have ht9 : tw_saves x1 (nI k2) x3 = nI 1 := by unfold tw_saves; rw [if_neg c9, if_pos c16]
      refine W.widen (k := 4) (n := 402) (by first | omega | decide) (by first | omega | decide) ?_
      exact W.iret (v := nI 0) hx hb hr (fun t ht _ => ⟨⟨nI 0, (), rfl, by exact fun h9 => absurd (ht9.symm.trans h9) (by decide), by dsimp only; rw [ht]; exact (by rw [ht9]; exact ⟨_, _, hw.o⟩)⟩, hS.F ht⟩) hS.2.2 dX4_saves_24
