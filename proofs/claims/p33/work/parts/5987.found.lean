/-! STONES: WHAT IS FOUND -/
theorem ST.ob {D : va_G} {T : Nat → ClassId} {ad : Nat → Nat} {o sc N d : Nat} {sf : Nat → Int32} {H : Heap} (h : ST D T ad o sc N sf d H) : ∃ fs : List Value, pAt D H o (eO 4 fs) := by
  obtain ⟨dr, F, V, sr, C, L, U, la, vv, h1, h2, h3, h4⟩ := h
  exact ⟨_, h3.ob⟩
set_option maxHeartbeats 4000000 in
set_option maxRecDepth 100000 in
theorem conX4_found (l : Launch) (D : va_G) (T : Nat → ClassId) (ad : Nat → Nat) (o sc N : Nat) (sf : Nat → Int32) (d : Nat) (hN : N < 2 ^ 30) (hd : d + 200 < 2 ^ 30) : Met l yX4_found wsX4_found ({ frames := 5, cells := 5672, slots := 295550, locals := 131 }) (cP D T [.ref o] (fun H => ST D T ad o sc N sf d H)) (va_Qi (fun (r : Int32) (_ : Unit) => r = nI 1) (fun _ t => ST D T ad o sc N sf (d + 180) t.heap) (fun z : Nat => o ≤ z)) 5672 295550 (fun z : Nat => o ≤ z) := by
  refine Met.ofW (cc := cX4_found) (maxL := 2) (ret := (some .boolean)) (by decide) rfl ?_
  intro p e s m args below meth c s₁ B hml hv9
  obtain ⟨rfl, hK, hst⟩ := hv9
  have hx := B.exec
  have hb := B.bytes
  have hr := B.returns
  have hts := atoms_spec (ws := wsX4_found) B.pre
  have hown : s.vm.findClass RX4 = some m.cls := findClass_of_methodNamed B.named
  have hlocks := B.notSynchronized
  generalize hAe : (fun z : Nat => o ≤ z) = A
  have hA : ∀ z : Nat, o ≤ z → A z := fun z h9 => by subst hAe; exact h9
  have hS : va_S A s.heap s.heap [] := va_S.rf
  have hl := lv_entry ([.ref o]) (n := 2) (Nat.le_of_ble_eq_true rfl)
  rw [lg_entry_eq]
  generalize (lg_sl ([.ref o]) ++ List.replicate (2 - (lg_sl ([.ref o])).length) Slot.unset).toArray = ls at hl ⊢
  have hl : lv_has ls 2 [(0, .ref o)] := hl
  refine lv_iconst (v := nI 0) hx hb dX4_found_0 (by decide) ?_
  refine lv_istore_n (lv' := [(1, .int (nI 0)), (0, .ref o)]) hx hb dX4_found_1 rfl hl (by decide) rfl (fun ls hl => ?_)
  refine q_forg (fun (i : Nat) (H : Heap) (locs : List Loc) (ls : Array Slot) => va_S A s.heap H locs ∧ lv_has ls 2 [(1, .int (nI i)), (0, .ref o)] ∧ ST D T ad o sc N sf (d + 10 * i) H) 14 405 21110 ?_ ?_ ?_
  · skip
    exact ⟨hS, lv_sub hl [0, 1] rfl, (by exact hst.le (by omega))⟩
  · skip
    intro i H locs ls hi9 hin9 hnext
    obtain ⟨hS, hl, hst⟩ := hin9
    refine lv_iload_n hx hb dX4_found_2 rfl (lv_at hl 0 rfl) ?_
    refine lv_bipush (v := nI 14) hx hb dX4_found_3 (by decide) ?_
    refine lv_icmp_ge (tgt := 23) hx hb dX4_found_5 (by decide) (fun c5 => ?_) (fun c5 => ?_)
    · skip
      have c5 : 14 ≤ i := (nc_le (a := 14) (b := i) (by omega) (by omega)).mp c5
      omega
    · skip
      have c5 : ¬ (14 ≤ i) := fun q9 => c5 ((nc_le (a := 14) (b := i) (by omega) (by omega)).mpr q9)
      refine lv_aload_n hx hb dX4_found_8 rfl (lv_at hl 1 rfl) ?_
      obtain ⟨fs9, hob⟩ := hst.ob
      refine va_calli (va_runV (As := []) (rest := []) ⟨hx, hb, hml, hown, hts⟩ (conX4_span l D T ad o sc N sf (d + 10 * i) (by omega) (by omega)) (cwV 0 hts gX4_found_X4_span rfl rfl rfl (by decide +kernel) ⟨Nat.le_of_ble_eq_true rfl, Nat.le_of_ble_eq_true rfl⟩) (preV hK hob rfl hst) rfl rfl hl.1 rfl (lv_room (Nat.le_of_ble_eq_true rfl)) dX4_found_9 ⟨by show _ ≤ 5672; omega, by show _ ≤ 295550; omega⟩) hS (fun q _ h9 => (hA q h9)) (fun q h9 => (hA q h9)) (fun r u t H1 locs1 ht hvm hw9 hB hz1 hk1 hS => ?_)
      try dsimp only at hB
      rw [ht] at hB
      rw [hw9]
      replace hst := hB
      refine lv_if_ne (tgt := 17) hx hb dX4_found_12 (by decide) (fun c12 => ?_) (fun c12 => ?_)
      · skip
        have c12 : ¬ (1 = 0) := fun q9 => c12 ((nc_eq (a := 1) (b := 0) (by omega) (by omega)).mpr q9)
        refine lv_iinc (v := nI (i + 1)) (lv' := [(1, .int (nI (i + 1))), (0, .ref o)]) hx hb dX4_found_17 hl (k := 0) rfl (inc_1 _) (by decide) rfl (fun ls hl => ?_)
        refine lv_goto (tgt := 2) hx hb dX4_found_20 (by decide) ?_
        exact W.widen (by omega) (by omega) (hnext _ _ _ ⟨hS, lv_sub hl [0, 1] rfl, (by exact hst.le (by omega))⟩)
      · skip
        have c12 : 1 = 0 := (nc_eq (a := 1) (b := 0) (by omega) (by omega)).mp c12
        omega
  · skip
    intro H locs ls hin9
    obtain ⟨hS, hl, hst⟩ := hin9
    refine lv_iload_n hx hb dX4_found_2 rfl (lv_at hl 0 rfl) ?_
    refine lv_bipush (v := nI 14) hx hb dX4_found_3 (by decide) ?_
    refine lv_icmp_ge (tgt := 23) hx hb dX4_found_5 (by decide) (fun c5 => ?_) (fun c5 => ?_)
    · skip
      have c5 : 14 ≤ 14 := (nc_le (a := 14) (b := 14) (by omega) (by omega)).mp c5
      refine lv_aload_n hx hb dX4_found_23 rfl (lv_at hl 1 rfl) ?_
      obtain ⟨fs9, hob⟩ := hst.ob
      refine va_calli (va_runV (As := []) (rest := []) ⟨hx, hb, hml, hown, hts⟩ (conX4_raise l D T ad o sc N sf (d + 10 * 14) (by omega) (by omega)) (cwV 0 hts gX4_found_X4_raise rfl rfl rfl (by decide +kernel) ⟨Nat.le_of_ble_eq_true rfl, Nat.le_of_ble_eq_true rfl⟩) (preV hK hob rfl hst) rfl rfl hl.1 rfl (lv_room (Nat.le_of_ble_eq_true rfl)) dX4_found_24 ⟨Nat.le_of_ble_eq_true rfl, Nat.le_of_ble_eq_true rfl⟩) hS (fun q _ h9 => (hA q h9)) (fun q h9 => (hA q h9)) (fun r u t H1 locs1 ht hvm hw9 hB hz1 hk1 hS => ?_)
      try dsimp only at hB
      rw [ht] at hB
      rw [hw9]
      replace hst := hB
      refine lv_if_eq (tgt := 48) hx hb dX4_found_27 (by decide) (fun c27 => ?_) (fun c27 => ?_)
      · skip
        have c27 : 1 = 0 := (nc_eq (a := 1) (b := 0) (by omega) (by omega)).mp c27
        omega
      · skip
        have c27 : ¬ (1 = 0) := fun q9 => c27 ((nc_eq (a := 1) (b := 0) (by omega) (by omega)).mpr q9)
        refine lv_aload_n hx hb dX4_found_30 rfl (lv_at hl 1 rfl) ?_
        obtain ⟨fs9, hob⟩ := hst.ob
        refine va_calli (va_runV (As := []) (rest := []) ⟨hx, hb, hml, hown, hts⟩ (conX4_raise l D T ad o sc N sf ((d + 10 * 14) + 10) (by omega) (by omega)) (cwV 0 hts gX4_found_X4_raise rfl rfl rfl (by decide +kernel) ⟨Nat.le_of_ble_eq_true rfl, Nat.le_of_ble_eq_true rfl⟩) (preV hK hob rfl hst) rfl rfl hl.1 rfl (lv_room (Nat.le_of_ble_eq_true rfl)) dX4_found_31 ⟨Nat.le_of_ble_eq_true rfl, Nat.le_of_ble_eq_true rfl⟩) hS (fun q _ h9 => (hA q h9)) (fun q h9 => (hA q h9)) (fun r u t H1 locs1 ht hvm hw9 hB hz1 hk1 hS => ?_)
        try dsimp only at hB
        rw [ht] at hB
        rw [hw9]
        replace hst := hB
        refine lv_if_eq (tgt := 48) hx hb dX4_found_34 (by decide) (fun c34 => ?_) (fun c34 => ?_)
        · skip
          have c34 : 1 = 0 := (nc_eq (a := 1) (b := 0) (by omega) (by omega)).mp c34
          omega
        · skip
          have c34 : ¬ (1 = 0) := fun q9 => c34 ((nc_eq (a := 1) (b := 0) (by omega) (by omega)).mpr q9)
          refine lv_aload_n hx hb dX4_found_37 rfl (lv_at hl 1 rfl) ?_
          obtain ⟨fs9, hob⟩ := hst.ob
          refine va_calli (va_runV (As := []) (rest := []) ⟨hx, hb, hml, hown, hts⟩ (conX4_thick_ l D T ad o sc N sf (((d + 10 * 14) + 10) + 10) (by omega) (by omega)) (cwV 0 hts gX4_found_X4_thick_ rfl rfl rfl (by decide +kernel) ⟨Nat.le_of_ble_eq_true rfl, Nat.le_of_ble_eq_true rfl⟩) (preV hK hob rfl hst) rfl rfl hl.1 rfl (lv_room (Nat.le_of_ble_eq_true rfl)) dX4_found_38 ⟨Nat.le_of_ble_eq_true rfl, Nat.le_of_ble_eq_true rfl⟩) hS (fun q _ h9 => (hA q h9)) (fun q h9 => (hA q h9)) (fun r u t H1 locs1 ht hvm hw9 hB hz1 hk1 hS => ?_)
          try dsimp only at hB
          rw [ht] at hB
          rw [hw9]
          replace hst := hB
          refine lv_if_eq (tgt := 48) hx hb dX4_found_41 (by decide) (fun c41 => ?_) (fun c41 => ?_)
          · skip
            have c41 : 1 = 0 := (nc_eq (a := 1) (b := 0) (by omega) (by omega)).mp c41
            omega
          · skip
            have c41 : ¬ (1 = 0) := fun q9 => c41 ((nc_eq (a := 1) (b := 0) (by omega) (by omega)).mpr q9)
            refine lv_iconst (v := nI 1) hx hb dX4_found_44 (by decide) ?_
            refine lv_goto (tgt := 49) hx hb dX4_found_45 (by decide) ?_
            refine W.widen (k := 5672) (n := 295550) (by first | omega | decide) (by first | omega | decide) ?_
            exact W.zret (v := nI 1) hx hb hr (rfl) (fun t ht _ => ⟨⟨nI 1, (), rfl, by rfl, by dsimp only; rw [ht]; exact hst.le (by omega)⟩, hS.F ht⟩) hS.2.2 dX4_found_49
    · skip
      have c5 : ¬ (14 ≤ 14) := fun q9 => c5 ((nc_le (a := 14) (b := 14) (by omega) (by omega)).mpr q9)
      omega
