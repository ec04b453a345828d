/-! THE LAW: the eight sets -/
set_option maxHeartbeats 40000000 in
set_option maxRecDepth 100000 in
theorem seg_sets {p : Program} {l : Launch} {e : Env} {s : State} {m : MethodId} {args : Array Value} {below : List Frame} {meth : Method} {c : Code} {Q : State → Prop} {D : va_G} {T : Nat → ClassId} {A : Nat → Prop} {H : Heap} {locs : List Loc} {cells slots : Nat} {ls : Array Slot} (hc : LCx p s m args c D T) {ad : Nat → Nat} {o sc N : Nat} {sf : Nat → Int32} (hN : N < 2 ^ 30) (hA : ∀ z : Nat, o ≤ z → A z) (hcm : cells ≤ 600086) (hsm : slots ≤ 7301442) (hS : va_S A s.heap H locs) {d : Nat} {F V : Nat → Nat → Int32} {L : Nat → SL} {U : Nat → Nat → Int32} {b ti st : Nat} {d0 : Int64} (hd : d + 100 < 2 ^ 29) (hcs : CS D T ad o sc N sf d F V L U H) (hl : lv_has ls 17 [(5, .long d0), (4, .int (nI st)), (3, .ref (ad 0)), (2, .ref o), (1, .int (nI ti)), (0, .ref b)]) (kk682 : ∀ (H1 : Heap) (locs1 : List Loc) (ls1 : Array Slot), va_S A s.heap H1 locs1 → lv_has ls1 17 [(7, .int (nI (sumK (fun k => (runs (F k)).1) 8))), (5, .long d0), (4, .int (nI st)), (3, .ref (ad 0)), (2, .ref o), (1, .int (nI ti)), (0, .ref b)] → CS D T ad o sc N sf (d + 8) F V L U H1 → W p l e room_1 s m args below meth c H1 locs1 cells slots Q (F0 m 682 ls1 [])) : W p l e room_1 s m args below meth c H locs cells slots Q (F0 m 83 ls []) := by
  have hc9 := hc
  obtain ⟨hx, hb, hml, hown, hts, hK⟩ := hc
  refine lv_iconst (v := nI 0) hx hb dL_law_83 (by decide) ?_
  refine lv_istore (lv' := [(7, .int (nI 0)), (5, .long d0), (4, .int (nI st)), (3, .ref (ad 0)), (2, .ref o), (1, .int (nI ti)), (0, .ref b)]) hx hb dL_law_84 hl (by decide) rfl (fun ls hl => ?_)
  refine lv_iconst (v := nI 0) hx hb dL_law_86 (by decide) ?_
  refine lv_istore (lv' := [(8, .int (nI 0)), (7, .int (nI 0)), (5, .long d0), (4, .int (nI st)), (3, .ref (ad 0)), (2, .ref o), (1, .int (nI ti)), (0, .ref b)]) hx hb dL_law_87 hl (by decide) rfl (fun ls hl => ?_)
  refine q_for (fun (i : Nat) (H : Heap) (locs : List Loc) (ls : Array Slot) => va_S A s.heap H locs ∧ lv_has ls 17 [(8, .int (nI i)), (7, .int (nI (sumK (fun k => (runs (F k)).1) i))), (5, .long d0), (4, .int (nI st)), (3, .ref (ad 0)), (2, .ref o), (1, .int (nI ti)), (0, .ref b)] ∧ CS D T ad o sc N sf (d + i) F V L U H) (N := 8) 0 (by omega) ?_ ?_ ?_
  · skip
    have e1 : nI 0 = nI (sumK (fun k => (runs (F k)).1) 0) := by rfl
    exact ⟨hS, lv_sub (lv_ex hl 1 rfl (congrArg Value.int e1)) [0, 1, 2, 3, 4, 5, 6, 7] rfl, (by exact hcs)⟩
  · skip
    intro i H locs ls hi9 hin9 hnext
    obtain ⟨hS, hl, hcs⟩ := hin9
    refine lv_iload hx hb dL_law_89 (lv_at hl 0 rfl) ?_
    refine lv_bipush (v := nI 8) hx hb dL_law_91 (by decide) ?_
    refine lv_icmp_ge (tgt := 682) hx hb dL_law_93 (by decide) (fun c93 => ?_) (fun c93 => ?_)
    · skip
      have c93 : 8 ≤ i := (nc_le (a := 8) (b := i) (by omega) (by omega)).mp c93
      omega
    · skip
      have c93 : ¬ (8 ≤ i) := fun q9 => c93 ((nc_le (a := 8) (b := i) (by omega) (by omega)).mpr q9)
      refine lv_aload_n hx hb dL_law_96 rfl (lv_at hl 4 rfl) ?_
      refine lv_iload hx hb dL_law_97 (lv_at hl 0 rfl) ?_
      refine lv_iconst (v := nI 1) hx hb dL_law_99 (by decide) ?_
      have hcs8 := hcs
      obtain ⟨dr, sr, C, la, vv, hdr, ho9, hsn, hw⟩ := hcs8
      refine va_calli (va_runV (As := [.int (nI i), .int (nI 1)]) (rest := []) ⟨hx, hb, hml, hown, hts⟩ (conX3_ofSet l D T ad F V sr C i 1 (by omega) (by omega) hsn) (cwV 2 hts gL_law_X3_ofSet rfl rfl rfl (by decide +kernel) ⟨Nat.le_of_ble_eq_true rfl, Nat.le_of_ble_eq_true rfl⟩) (preV hK hw.pl.o rfl hw.pl) rfl rfl hl.1 rfl (lv_room (Nat.le_of_ble_eq_true rfl)) dL_law_100 ⟨by show _ ≤ 600086; omega, by show _ ≤ 7301442; omega⟩) hS (fun q _ h9 => (by obtain ⟨i9, h8, rfl⟩ := h9; exact hA _ (by have := hw.1 i9 h8; omega))) (fun q h9 => (by obtain ⟨i9, h8, rfl⟩ := h9; exact hA _ (by have := hw.1 i9 h8; omega))) (fun r u t H1 locs1 ht hvm hw9 hB hz1 hk1 hS => ?_)
      try dsimp only at hB
      rw [ht] at hB
      rw [hw9]
      replace hcs : CS D T ad o sc N sf (d + i) F V L U H1 := ⟨dr, (facSr (F i) 1 sr), _, la, vv, by omega, by omega, (facSr_le hsn), hw.setP hB (fun q h1 h2 => hk1 q h1 h2)⟩
      rw [os1]
      refine lv_istore (lv' := [(9, .int (nI ((runs (F i)).1))), (8, .int (nI i)), (7, .int (nI (sumK (fun k => (runs (F k)).1) i))), (5, .long d0), (4, .int (nI st)), (3, .ref (ad 0)), (2, .ref o), (1, .int (nI ti)), (0, .ref b)]) hx hb dL_law_103 hl (by decide) rfl (fun ls hl => ?_)
      refine lv_iconst (v := nI 0) hx hb dL_law_105 (by decide) ?_
      refine lv_istore (lv' := [(10, .int (nI 0)), (9, .int (nI ((runs (F i)).1))), (8, .int (nI i)), (7, .int (nI (sumK (fun k => (runs (F k)).1) i))), (5, .long d0), (4, .int (nI st)), (3, .ref (ad 0)), (2, .ref o), (1, .int (nI ti)), (0, .ref b)]) hx hb dL_law_106 hl (by decide) rfl (fun ls hl => ?_)
      refine lv_iconst (v := nI 0) hx hb dL_law_108 (by decide) ?_
      refine lv_istore (lv' := [(11, .int (nI 0)), (10, .int (nI 0)), (9, .int (nI ((runs (F i)).1))), (8, .int (nI i)), (7, .int (nI (sumK (fun k => (runs (F k)).1) i))), (5, .long d0), (4, .int (nI st)), (3, .ref (ad 0)), (2, .ref o), (1, .int (nI ti)), (0, .ref b)]) hx hb dL_law_109 hl (by decide) rfl (fun ls hl => ?_)
      refine lv_bipush (v := (-2)) hx hb dL_law_111 (by decide) ?_
      refine lv_istore (lv' := [(12, .int (-2)), (11, .int (nI 0)), (10, .int (nI 0)), (9, .int (nI ((runs (F i)).1))), (8, .int (nI i)), (7, .int (nI (sumK (fun k => (runs (F k)).1) i))), (5, .long d0), (4, .int (nI st)), (3, .ref (ad 0)), (2, .ref o), (1, .int (nI ti)), (0, .ref b)]) hx hb dL_law_113 hl (by decide) rfl (fun ls hl => ?_)
      refine lv_iconst (v := nI 0) hx hb dL_law_115 (by decide) ?_
      refine lv_istore (lv' := [(13, .int (nI 0)), (12, .int (-2)), (11, .int (nI 0)), (10, .int (nI 0)), (9, .int (nI ((runs (F i)).1))), (8, .int (nI i)), (7, .int (nI (sumK (fun k => (runs (F k)).1) i))), (5, .long d0), (4, .int (nI st)), (3, .ref (ad 0)), (2, .ref o), (1, .int (nI ti)), (0, .ref b)]) hx hb dL_law_116 hl (by decide) rfl (fun ls hl => ?_)
      refine seg_spans hc9 hN hA hcm hsm hS (by omega) (by omega) hcs (lv_sub hl [0, 1, 2, 3, 4, 5, 6, 7, 8, 9, 10, 11, 12] rfl) (fun H1 locs1 ls hS hl hcs => ?_)
      refine seg_set hc9 hN hA hcm hsm hS (by omega) (by omega) hcs hl (fun H1 locs1 ls hS hl hcs => ?_)
      refine lv_iinc (v := nI (i + 1)) (lv' := [(8, .int (nI (i + 1))), (7, .int (nI (sumK (fun k => (runs (F k)).1) (i + 1)))), (5, .long d0), (4, .int (nI st)), (3, .ref (ad 0)), (2, .ref o), (1, .int (nI ti)), (0, .ref b)]) hx hb dL_law_676 hl (k := 0) rfl (inc_1 _) (by decide) rfl (fun ls hl => ?_)
      refine lv_goto (tgt := 89) hx hb dL_law_679 (by decide) ?_
      exact hnext _ _ _ ⟨hS, lv_sub hl [0, 1, 2, 3, 4, 5, 6, 7] rfl, (by exact hcs)⟩
  · skip
    intro H locs ls hin9
    obtain ⟨hS, hl, hcs⟩ := hin9
    refine lv_iload hx hb dL_law_89 (lv_at hl 0 rfl) ?_
    refine lv_bipush (v := nI 8) hx hb dL_law_91 (by decide) ?_
    refine lv_icmp_ge (tgt := 682) hx hb dL_law_93 (by decide) (fun c93 => ?_) (fun c93 => ?_)
    · skip
      have c93 : 8 ≤ 8 := (nc_le (a := 8) (b := 8) (by omega) (by omega)).mp c93
      exact kk682 H locs ls hS (lv_sub hl [1, 2, 3, 4, 5, 6, 7] rfl) hcs
    · skip
      have c93 : ¬ (8 ≤ 8) := fun q9 => c93 ((nc_le (a := 8) (b := 8) (by omega) (by omega)).mpr q9)
      omega
