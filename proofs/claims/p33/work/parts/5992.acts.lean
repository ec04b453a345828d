/-! STONES: ACTS ON SETS -/
set_option maxHeartbeats 4000000 in
set_option maxRecDepth 100000 in
theorem conX4_actSet (l : Launch) (D : va_G) (T : Nat → ClassId) (ad : Nat → Nat) (o sc N : Nat) (sf : Nat → Int32) (d : Nat) (hN : N < 2 ^ 30) (hd : d + 200 < 2 ^ 30) : Met l yX4_actSet wsX4_actSet ({ frames := 8, cells := 410, slots := 22000, locals := 182 }) (cP D T [.ref o] (fun H => ST D T ad o sc N sf d H)) (va_Qi (fun (r : Int32) (_ : Unit) => r = nI 1) (fun _ t => ST D T ad o sc N sf (d + 12) t.heap) (fun z : Nat => o ≤ z)) 410 22000 (fun z : Nat => o ≤ z) := by
  refine Met.ofW (cc := cX4_actSet) (maxL := 1) (ret := (some .boolean)) (by decide) rfl ?_
  intro p e s m args below meth c s₁ B hml hv9
  obtain ⟨rfl, hK, hst⟩ := hv9
  have hx := B.exec
  have hb := B.bytes
  have hr := B.returns
  have hts := atoms_spec (ws := wsX4_actSet) B.pre
  have hown : s.vm.findClass RX4 = some m.cls := findClass_of_methodNamed B.named
  have hlocks := B.notSynchronized
  generalize hAe : (fun z : Nat => o ≤ z) = A
  have hA : ∀ z : Nat, o ≤ z → A z := fun z h9 => by subst hAe; exact h9
  have hS : va_S A s.heap s.heap [] := va_S.rf
  have hl := lv_entry ([.ref o]) (n := 1) (Nat.le_of_ble_eq_true rfl)
  rw [lg_entry_eq]
  generalize (lg_sl ([.ref o]) ++ List.replicate (1 - (lg_sl ([.ref o])).length) Slot.unset).toArray = ls at hl ⊢
  have hl : lv_has ls 1 [(0, .ref o)] := hl
  refine lv_aload_n hx hb dX4_actSet_0 rfl (lv_at hl 0 rfl) ?_
  refine lv_bipush (v := nI 8) hx hb dX4_actSet_1 (by decide) ?_
  obtain ⟨dr, F, V, sr, C, L, U, la, vv, hdr, ho9, hw, hinv⟩ := hst
  have hob := hw.ob
  have hlt9 := hw.lt
  refine va_calli (va_runV (As := [.int (nI 8)]) (rest := []) ⟨hx, hb, hml, hown, hts⟩ (conX4_draw l D T ad o sc N sf dr F V sr C L U la vv (by omega) (by omega) 8 (by omega) (by omega)) (cwV 1 hts gX4_actSet_X4_draw rfl rfl rfl (by decide +kernel) ⟨Nat.le_of_ble_eq_true rfl, Nat.le_of_ble_eq_true rfl⟩) (preV hK hob rfl hw) rfl rfl hl.1 rfl (lv_room (Nat.le_of_ble_eq_true rfl)) dX4_actSet_3 ⟨Nat.le_of_ble_eq_true rfl, Nat.le_of_ble_eq_true rfl⟩) hS (fun q _ h9 => (by have h8 : q = o := h9; rw [h8]; exact hA o (Nat.le_refl _))) (fun q h9 => (by have h8 : q = o := h9; rw [h8]; exact hA o (Nat.le_refl _))) (fun r u t H1 locs1 ht hvm hw9 hB hz1 hk1 hS => ?_)
  try dsimp only at hB
  rw [ht] at hB
  obtain ⟨k1, hk1, rfl⟩ := hw9
  have hst : ST D T ad o sc N sf (d + 1) H1 := ⟨_, _, _, _, _, _, _, _, _, by omega, (by have h8 := hS.1; omega), hB, hinv⟩
  by_cases e6_0 : k1 = 0
  · skip
    refine lv_tableIn (off := 30) (tgt := 36) hx hb dX4_actSet_6 (by rw [e6_0]; decide) (by rw [e6_0]; decide) (by rw [e6_0]; rfl) (by decide) ?_
    refine lv_aload_n hx hb dX4_actSet_36 rfl (lv_at hl 0 rfl) ?_
    obtain ⟨fs9, hob⟩ := hst.ob
    refine va_calli (va_runV (As := []) (rest := []) ⟨hx, hb, hml, hown, hts⟩ (conX4_join l D T ad o sc N sf (d + 1) (by omega) (by omega)) (cwV 0 hts gX4_actSet_X4_join rfl rfl rfl (by decide +kernel) ⟨Nat.le_of_ble_eq_true rfl, Nat.le_of_ble_eq_true rfl⟩) (preV hK hob rfl hst) rfl rfl hl.1 rfl (lv_room (Nat.le_of_ble_eq_true rfl)) dX4_actSet_37 ⟨Nat.le_of_ble_eq_true rfl, Nat.le_of_ble_eq_true rfl⟩) hS (fun q _ h9 => (hA q h9)) (fun q h9 => (hA q h9)) (fun r u t H1 locs1 ht hvm hw9 hB hz1 hk1 hS => ?_)
    try dsimp only at hB
    rw [ht] at hB
    rw [hw9]
    replace hst := hB
    refine W.widen (k := 410) (n := 22000) (by first | omega | decide) (by first | omega | decide) ?_
    exact W.zret (v := nI 1) hx hb hr (rfl) (fun t ht _ => ⟨⟨nI 1, (), rfl, by rfl, by dsimp only; rw [ht]; exact hst.le (by omega)⟩, hS.F ht⟩) hS.2.2 dX4_actSet_40
  by_cases e6_1 : k1 = 1
  · skip
    refine lv_tableIn (off := 35) (tgt := 41) hx hb dX4_actSet_6 (by rw [e6_1]; decide) (by rw [e6_1]; decide) (by rw [e6_1]; rfl) (by decide) ?_
    refine lv_aload_n hx hb dX4_actSet_41 rfl (lv_at hl 0 rfl) ?_
    obtain ⟨fs9, hob⟩ := hst.ob
    refine va_calli (va_runV (As := []) (rest := []) ⟨hx, hb, hml, hown, hts⟩ (conX4_change l D T ad o sc N sf (d + 1) (by omega) (by omega)) (cwV 0 hts gX4_actSet_X4_change rfl rfl rfl (by decide +kernel) ⟨Nat.le_of_ble_eq_true rfl, Nat.le_of_ble_eq_true rfl⟩) (preV hK hob rfl hst) rfl rfl hl.1 rfl (lv_room (Nat.le_of_ble_eq_true rfl)) dX4_actSet_42 ⟨Nat.le_of_ble_eq_true rfl, Nat.le_of_ble_eq_true rfl⟩) hS (fun q _ h9 => (hA q h9)) (fun q h9 => (hA q h9)) (fun r u t H1 locs1 ht hvm hw9 hB hz1 hk1 hS => ?_)
    try dsimp only at hB
    rw [ht] at hB
    rw [hw9]
    replace hst := hB
    refine W.widen (k := 410) (n := 22000) (by first | omega | decide) (by first | omega | decide) ?_
    exact W.zret (v := nI 1) hx hb hr (rfl) (fun t ht _ => ⟨⟨nI 1, (), rfl, by rfl, by dsimp only; rw [ht]; exact hst.le (by omega)⟩, hS.F ht⟩) hS.2.2 dX4_actSet_45
  by_cases e6_2 : k1 = 2
  · skip
    refine lv_tableIn (off := 40) (tgt := 46) hx hb dX4_actSet_6 (by rw [e6_2]; decide) (by rw [e6_2]; decide) (by rw [e6_2]; rfl) (by decide) ?_
    refine lv_aload_n hx hb dX4_actSet_46 rfl (lv_at hl 0 rfl) ?_
    obtain ⟨fs9, hob⟩ := hst.ob
    refine va_calli (va_runV (As := []) (rest := []) ⟨hx, hb, hml, hown, hts⟩ (conX4_move l D T ad o sc N sf (d + 1) (by omega) (by omega)) (cwV 0 hts gX4_actSet_X4_move rfl rfl rfl (by decide +kernel) ⟨Nat.le_of_ble_eq_true rfl, Nat.le_of_ble_eq_true rfl⟩) (preV hK hob rfl hst) rfl rfl hl.1 rfl (lv_room (Nat.le_of_ble_eq_true rfl)) dX4_actSet_47 ⟨Nat.le_of_ble_eq_true rfl, Nat.le_of_ble_eq_true rfl⟩) hS (fun q _ h9 => (hA q h9)) (fun q h9 => (hA q h9)) (fun r u t H1 locs1 ht hvm hw9 hB hz1 hk1 hS => ?_)
    try dsimp only at hB
    rw [ht] at hB
    rw [hw9]
    replace hst := hB
    refine W.widen (k := 410) (n := 22000) (by first | omega | decide) (by first | omega | decide) ?_
    exact W.zret (v := nI 1) hx hb hr (rfl) (fun t ht _ => ⟨⟨nI 1, (), rfl, by rfl, by dsimp only; rw [ht]; exact hst.le (by omega)⟩, hS.F ht⟩) hS.2.2 dX4_actSet_50
  by_cases e6_3 : k1 = 3
  · skip
    refine lv_tableIn (off := 45) (tgt := 51) hx hb dX4_actSet_6 (by rw [e6_3]; decide) (by rw [e6_3]; decide) (by rw [e6_3]; rfl) (by decide) ?_
    refine lv_aload_n hx hb dX4_actSet_51 rfl (lv_at hl 0 rfl) ?_
    obtain ⟨fs9, hob⟩ := hst.ob
    refine va_calli (va_runV (As := []) (rest := []) ⟨hx, hb, hml, hown, hts⟩ (conX4_stretch l D T ad o sc N sf (d + 1) (by omega) (by omega)) (cwV 0 hts gX4_actSet_X4_stretch rfl rfl rfl (by decide +kernel) ⟨Nat.le_of_ble_eq_true rfl, Nat.le_of_ble_eq_true rfl⟩) (preV hK hob rfl hst) rfl rfl hl.1 rfl (lv_room (Nat.le_of_ble_eq_true rfl)) dX4_actSet_52 ⟨Nat.le_of_ble_eq_true rfl, Nat.le_of_ble_eq_true rfl⟩) hS (fun q _ h9 => (hA q h9)) (fun q h9 => (hA q h9)) (fun r u t H1 locs1 ht hvm hw9 hB hz1 hk1 hS => ?_)
    try dsimp only at hB
    rw [ht] at hB
    rw [hw9]
    replace hst := hB
    refine W.widen (k := 410) (n := 22000) (by first | omega | decide) (by first | omega | decide) ?_
    exact W.zret (v := nI 1) hx hb hr (rfl) (fun t ht _ => ⟨⟨nI 1, (), rfl, by rfl, by dsimp only; rw [ht]; exact hst.le (by omega)⟩, hS.F ht⟩) hS.2.2 dX4_actSet_55
  refine lv_tableOut (tgt := 56) hx hb dX4_actSet_6 (Or.inr (by rw [nI_toInt (by omega)]; omega)) (by decide) ?_
  refine lv_aload_n hx hb dX4_actSet_56 rfl (lv_at hl 0 rfl) ?_
  obtain ⟨fs9, hob⟩ := hst.ob
  refine va_calli (va_runV (As := []) (rest := []) ⟨hx, hb, hml, hown, hts⟩ (conX4_span l D T ad o sc N sf (d + 1) (by omega) (by omega)) (cwV 0 hts gX4_actSet_X4_span rfl rfl rfl (by decide +kernel) ⟨Nat.le_of_ble_eq_true rfl, Nat.le_of_ble_eq_true rfl⟩) (preV hK hob rfl hst) rfl rfl hl.1 rfl (lv_room (Nat.le_of_ble_eq_true rfl)) dX4_actSet_57 ⟨Nat.le_of_ble_eq_true rfl, Nat.le_of_ble_eq_true rfl⟩) hS (fun q _ h9 => (hA q h9)) (fun q h9 => (hA q h9)) (fun r u t H1 locs1 ht hvm hw9 hB hz1 hk1 hS => ?_)
  try dsimp only at hB
  rw [ht] at hB
  rw [hw9]
  replace hst := hB
  refine W.widen (k := 410) (n := 22000) (by first | omega | decide) (by first | omega | decide) ?_
  exact W.zret (v := nI 1) hx hb hr (rfl) (fun t ht _ => ⟨⟨nI 1, (), rfl, by rfl, by dsimp only; rw [ht]; exact hst.le (by omega)⟩, hS.F ht⟩) hS.2.2 dX4_actSet_60
