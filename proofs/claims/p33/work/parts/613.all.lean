/-! THE LAW: all sets together -/
theorem sum_808 (F : Nat → Nat → Int32) : sumK (fun k => (runs (F k)).1) 8 ≤ 808 := by
  have h : ∀ k : Nat, (runs (F k)).1 ≤ 101 := fun k => (runs_ok (F k)).1.le
  have h0 := h 0
  have h1 := h 1
  have h2 := h 2
  have h3 := h 3
  have h4 := h 4
  have h5 := h 5
  have h6 := h 6
  have h7 := h 7
  have e : ∀ a : Nat → Nat, sumK a 8 = 0 + a 0 + a 1 + a 2 + a 3 + a 4 + a 5 + a 6 + a 7 := fun a => rfl
  rw [e]
  omega
set_option maxHeartbeats 40000000 in
set_option maxRecDepth 100000 in
theorem seg_all {p : Program} {l : Launch} {e : Env} {s : State} {m : MethodId} {args : Array Value} {below : List Frame} {meth : Method} {c : Code} {Q : State → Prop} {D : va_G} {T : Nat → ClassId} {A : Nat → Prop} {H : Heap} {locs : List Loc} {cells slots : Nat} {ls : Array Slot} (hc : LCx p s m args c D T) {ad : Nat → Nat} {o sc N : Nat} {sf : Nat → Int32} (hN : N < 2 ^ 30) (hA : ∀ z : Nat, o ≤ z → A z) (hcm : cells ≤ 600086) (hsm : slots ≤ 7301442) (hS : va_S A s.heap H locs) {d : Nat} {F V : Nat → Nat → Int32} {L : Nat → SL} {U : Nat → Nat → Int32} {b ti st : Nat} {d0 : Int64} (hd : d + 100 < 2 ^ 29) (hcs : CS D T ad o sc N sf d F V L U H) (hl : lv_has ls 17 [(7, .int (nI (sumK (fun k => (runs (F k)).1) 8))), (5, .long d0), (4, .int (nI st)), (3, .ref (ad 0)), (2, .ref o), (1, .int (nI ti)), (0, .ref b)]) (kk757 : ∀ (H1 : Heap) (locs1 : List Loc) (ls1 : Array Slot), va_S A s.heap H1 locs1 → lv_has ls1 17 [(5, .long d0), (4, .int (nI st)), (3, .ref (ad 0)), (2, .ref o), (1, .int (nI ti)), (0, .ref b)] → CS D T ad o sc N sf d F V L U H1 → W p l e room_1 s m args below meth c H1 locs1 cells slots Q (F0 m 757 ls1 [])) : W p l e room_1 s m args below meth c H locs cells slots Q (F0 m 682 ls []) := by
  obtain ⟨hx, hb, hml, hown, hts, hK⟩ := hc
  obtain ⟨c9, hp9, hc9⟩ := pin_all F
  have hs9 : sumK (fun k => (runs (F k)).1) 8 ≤ 808 := sum_808 F
  have ht0 := cthN_0 F 255 201
  have ht9 := cthN_9 F 255 201
  have ht1 := cthN_le F 255 201 (a := 1) (b := 2) (by decide)
  refine lv_aload_n hx hb dL_law_682 rfl (lv_at hl 3 rfl) ?_
  refine lv_sipush (v := nI 255) hx hb dL_law_683 (by decide) ?_
  have hcs8 := hcs
  obtain ⟨dr, sr, C, la, vv, hdr, ho9, hsn, hw⟩ := hcs8
  refine vp_callSi (va_runV (As := [.int (nI 255)]) (rest := []) ⟨hx, hb, hml, hown, hts⟩ (conX3_apart l D T ad F V sr C 255 (by omega)) (cwV 1 hts gL_law_X3_apart rfl rfl rfl (by decide +kernel) ⟨Nat.le_of_ble_eq_true rfl, Nat.le_of_ble_eq_true rfl⟩) (preV hK hw.pl.o rfl hw.pl) rfl rfl hl.1 rfl (lv_room (Nat.le_of_ble_eq_true rfl)) dL_law_686 ⟨by show _ ≤ 600086; omega, by show _ ≤ 7301442; omega⟩).run (fun r1 hr1 => ?_)
  rw [hr1]
  rw [hp9]
  refine lv_istore (lv' := [(8, .int (nI c9)), (7, .int (nI (sumK (fun k => (runs (F k)).1) 8))), (5, .long d0), (4, .int (nI st)), (3, .ref (ad 0)), (2, .ref o), (1, .int (nI ti)), (0, .ref b)]) hx hb dL_law_689 hl (by decide) rfl (fun ls hl => ?_)
  refine lv_iload hx hb dL_law_691 (lv_at hl 0 rfl) ?_
  refine lv_iload hx hb dL_law_693 (lv_at hl 1 rfl) ?_
  refine lv_icmp_gt (tgt := 755) hx hb dL_law_695 (by decide) (fun c695 => ?_) (fun c695 => ?_)
  · skip
    have c695 : sumK (fun k => (runs (F k)).1) 8 < c9 := (nc_lt (a := sumK (fun k => (runs (F k)).1) 8) (b := c9) (by omega) (by omega)).mp c695
    omega
  · skip
    have c695 : ¬ (sumK (fun k => (runs (F k)).1) 8 < c9) := fun q9 => c695 ((nc_lt (a := sumK (fun k => (runs (F k)).1) 8) (b := c9) (by omega) (by omega)).mpr q9)
    refine lv_iload hx hb dL_law_698 (lv_at hl 0 rfl) ?_
    refine lv_aload_n hx hb dL_law_700 rfl (lv_at hl 4 rfl) ?_
    refine lv_sipush (v := nI 255) hx hb dL_law_701 (by decide) ?_
    have hcs8 := hcs
    obtain ⟨dr, sr, C, la, vv, hdr, ho9, hsn, hw⟩ := hcs8
    refine vp_callSi (va_runV (As := [.int (nI 255)]) (rest := [.int (nI c9)]) ⟨hx, hb, hml, hown, hts⟩ (conX3_pins l D T ad F V sr C 255 (by omega)) (cwV 1 hts gL_law_X3_pins rfl rfl rfl (by decide +kernel) ⟨Nat.le_of_ble_eq_true rfl, Nat.le_of_ble_eq_true rfl⟩) (preV hK hw.pl.o rfl hw.pl) rfl rfl hl.1 rfl (lv_room (Nat.le_of_ble_eq_true rfl)) dL_law_704 ⟨by show _ ≤ 600086; omega, by show _ ≤ 7301442; omega⟩).run (fun r2 hr2 => ?_)
    rw [hr2]
    rw [hp9]
    refine lv_icmp_ne (tgt := 755) hx hb dL_law_707 (by decide) (fun c707 => ?_) (fun c707 => ?_)
    · skip
      have c707 : ¬ (c9 = c9) := fun q9 => c707 ((nc_eq (a := c9) (b := c9) (by omega) (by omega)).mpr q9)
      omega
    · skip
      have c707 : c9 = c9 := (nc_eq (a := c9) (b := c9) (by omega) (by omega)).mp c707
      refine lv_aload_n hx hb dL_law_710 rfl (lv_at hl 4 rfl) ?_
      refine lv_sipush (v := nI 255) hx hb dL_law_711 (by decide) ?_
      refine lv_iconst (v := nI 0) hx hb dL_law_714 (by decide) ?_
      have hcs8 := hcs
      obtain ⟨dr, sr, C, la, vv, hdr, ho9, hsn, hw⟩ := hcs8
      refine vp_callSi (va_runV (As := [.int (nI 255), .int (nI 0)]) (rest := []) ⟨hx, hb, hml, hown, hts⟩ (conX3_thicker l D T ad F V sr C 255 (nI 0) (by omega)) (cwV 2 hts gL_law_X3_thicker rfl rfl rfl (by decide +kernel) ⟨Nat.le_of_ble_eq_true rfl, Nat.le_of_ble_eq_true rfl⟩) (preV hK hw.pl.o rfl hw.pl) rfl rfl hl.1 rfl (lv_room (Nat.le_of_ble_eq_true rfl)) dL_law_715 ⟨by show _ ≤ 600086; omega, by show _ ≤ 7301442; omega⟩).run (fun r3 hr3 => ?_)
      rw [hr3]
      rw [show cthZ F 255 (nI 0) 201 = nI (cthN F 255 0 201) from cthZ_n F 255 (m := 0) (by decide) 201]
      refine lv_sipush (v := nI 201) hx hb dL_law_718 (by decide) ?_
      refine lv_icmp_ne (tgt := 755) hx hb dL_law_721 (by decide) (fun c721 => ?_) (fun c721 => ?_)
      · skip
        have c721 : ¬ (cthN F 255 0 201 = 201) := fun q9 => c721 ((nc_eq (a := cthN F 255 0 201) (b := 201) (by omega) (by omega)).mpr q9)
        omega
      · skip
        have c721 : cthN F 255 0 201 = 201 := (nc_eq (a := cthN F 255 0 201) (b := 201) (by omega) (by omega)).mp c721
        refine lv_aload_n hx hb dL_law_724 rfl (lv_at hl 4 rfl) ?_
        refine lv_sipush (v := nI 255) hx hb dL_law_725 (by decide) ?_
        refine lv_bipush (v := nI 9) hx hb dL_law_728 (by decide) ?_
        have hcs8 := hcs
        obtain ⟨dr, sr, C, la, vv, hdr, ho9, hsn, hw⟩ := hcs8
        refine vp_callSi (va_runV (As := [.int (nI 255), .int (nI 9)]) (rest := []) ⟨hx, hb, hml, hown, hts⟩ (conX3_thicker l D T ad F V sr C 255 (nI 9) (by omega)) (cwV 2 hts gL_law_X3_thicker rfl rfl rfl (by decide +kernel) ⟨Nat.le_of_ble_eq_true rfl, Nat.le_of_ble_eq_true rfl⟩) (preV hK hw.pl.o rfl hw.pl) rfl rfl hl.1 rfl (lv_room (Nat.le_of_ble_eq_true rfl)) dL_law_730 ⟨by show _ ≤ 600086; omega, by show _ ≤ 7301442; omega⟩).run (fun r4 hr4 => ?_)
        rw [hr4]
        rw [show cthZ F 255 (nI 9) 201 = nI (cthN F 255 9 201) from cthZ_n F 255 (m := 9) (by decide) 201]
        refine lv_if_ne (tgt := 755) hx hb dL_law_733 (by decide) (fun c733 => ?_) (fun c733 => ?_)
        · skip
          have c733 : ¬ (cthN F 255 9 201 = 0) := fun q9 => c733 ((nc_eq (a := cthN F 255 9 201) (b := 0) (by omega) (by omega)).mpr q9)
          omega
        · skip
          have c733 : cthN F 255 9 201 = 0 := (nc_eq (a := cthN F 255 9 201) (b := 0) (by omega) (by omega)).mp c733
          refine lv_aload_n hx hb dL_law_736 rfl (lv_at hl 4 rfl) ?_
          refine lv_sipush (v := nI 255) hx hb dL_law_737 (by decide) ?_
          refine lv_iconst (v := nI 2) hx hb dL_law_740 (by decide) ?_
          have hcs8 := hcs
          obtain ⟨dr, sr, C, la, vv, hdr, ho9, hsn, hw⟩ := hcs8
          refine vp_callSi (va_runV (As := [.int (nI 255), .int (nI 2)]) (rest := []) ⟨hx, hb, hml, hown, hts⟩ (conX3_thicker l D T ad F V sr C 255 (nI 2) (by omega)) (cwV 2 hts gL_law_X3_thicker rfl rfl rfl (by decide +kernel) ⟨Nat.le_of_ble_eq_true rfl, Nat.le_of_ble_eq_true rfl⟩) (preV hK hw.pl.o rfl hw.pl) rfl rfl hl.1 rfl (lv_room (Nat.le_of_ble_eq_true rfl)) dL_law_741 ⟨by show _ ≤ 600086; omega, by show _ ≤ 7301442; omega⟩).run (fun r5 hr5 => ?_)
          rw [hr5]
          rw [show cthZ F 255 (nI 2) 201 = nI (cthN F 255 2 201) from cthZ_n F 255 (m := 2) (by decide) 201]
          refine lv_aload_n hx hb dL_law_744 rfl (lv_at hl 4 rfl) ?_
          refine lv_sipush (v := nI 255) hx hb dL_law_745 (by decide) ?_
          refine lv_iconst (v := nI 1) hx hb dL_law_748 (by decide) ?_
          have hcs8 := hcs
          obtain ⟨dr, sr, C, la, vv, hdr, ho9, hsn, hw⟩ := hcs8
          refine vp_callSi (va_runV (As := [.int (nI 255), .int (nI 1)]) (rest := [.int (nI (cthN F 255 2 201))]) ⟨hx, hb, hml, hown, hts⟩ (conX3_thicker l D T ad F V sr C 255 (nI 1) (by omega)) (cwV 2 hts gL_law_X3_thicker rfl rfl rfl (by decide +kernel) ⟨Nat.le_of_ble_eq_true rfl, Nat.le_of_ble_eq_true rfl⟩) (preV hK hw.pl.o rfl hw.pl) rfl rfl hl.1 rfl (lv_room (Nat.le_of_ble_eq_true rfl)) dL_law_749 ⟨by show _ ≤ 600086; omega, by show _ ≤ 7301442; omega⟩).run (fun r6 hr6 => ?_)
          rw [hr6]
          rw [show cthZ F 255 (nI 1) 201 = nI (cthN F 255 1 201) from cthZ_n F 255 (m := 1) (by decide) 201]
          refine lv_icmp_le (tgt := 757) hx hb dL_law_752 (by decide) (fun c752 => ?_) (fun c752 => ?_)
          · skip
            have c752 : cthN F 255 2 201 ≤ cthN F 255 1 201 := (nc_le (a := cthN F 255 2 201) (b := cthN F 255 1 201) (by omega) (by omega)).mp c752
            exact kk757 H locs ls hS (lv_sub hl [2, 3, 4, 5, 6, 7] rfl) hcs
          · skip
            have c752 : ¬ (cthN F 255 2 201 ≤ cthN F 255 1 201) := fun q9 => c752 ((nc_le (a := cthN F 255 2 201) (b := cthN F 255 1 201) (by omega) (by omega)).mpr q9)
            omega
