/-! THE LAW: one step -/
theorem CS.st {D : va_G} {T : Nat → ClassId} {ad : Nat → Nat} {o sc N d : Nat} {sf : Nat → Int32} {F V F1 V1 : Nat → Nat → Int32} {sr : SRs} {L : Nat → SL} {U : Nat → Nat → Int32} {H : Heap} (h : CS D T ad o sc N sf d F1 V1 L U H) (hinv : Inv F V sr L U) (hE : EqF F F1) (hEV : EqV V V1) : ST D T ad o sc N sf d H := by
  obtain ⟨dr, sr2, C, la, vv, h1, h2, h3, h4⟩ := h
  exact ⟨dr, F1, V1, sr2, C, L, U, la, vv, h1, h2, h4, h3, fun k hk => (hinv.2.1 k hk).congr (fun j hj => (hE k j hk hj)), fun f g hf hg => ⟨(hinv.2.2 f g hf hg).1.trans (hEV f g hf hg).1.symm, hEV.inl f g hf hg⟩⟩
set_option maxHeartbeats 40000000 in
set_option maxRecDepth 100000 in
theorem seg_step {p : Program} {l : Launch} {e : Env} {s : State} {m : MethodId} {args : Array Value} {below : List Frame} {meth : Method} {c : Code} {Q : State → Prop} {D : va_G} {T : Nat → ClassId} {A : Nat → Prop} {H : Heap} {locs : List Loc} {cells slots : Nat} {ls : Array Slot} (hc : LCx p s m args c D T) {ad : Nat → Nat} {o sc N : Nat} {sf : Nat → Int32} (hN : N < 2 ^ 30) (hA : ∀ z : Nat, o ≤ z → A z) (hcm : cells + 3000 ≤ 600086) (hsm : slots + 150000 ≤ 7301442) (hS : va_S A s.heap H locs) {d : Nat} {b ti st : Nat} (hd : d + 1000 < 2 ^ 29) (hst : ST D T ad o sc N sf d H) (hl : lv_has ls 17 [(4, .int (nI st)), (3, .ref (ad 0)), (2, .ref o), (1, .int (nI ti)), (0, .ref b)]) (kk1141 : ∀ (H1 : Heap) (locs1 : List Loc) (ls1 : Array Slot), va_S A s.heap H1 locs1 → lv_has ls1 17 [(4, .int (nI st)), (3, .ref (ad 0)), (2, .ref o), (1, .int (nI ti)), (0, .ref b)] → ST D T ad o sc N sf (d + 100) H1 → W p l e room_1 s m args below meth c H1 locs1 (cells + 3 * 820) (slots + 3 * 44000) Q (F0 m 1141 ls1 [])) : W p l e room_1 s m args below meth c H locs cells slots Q (F0 m 46 ls []) := by
  have hc9 := hc
  obtain ⟨hx, hb, hml, hown, hts, hK⟩ := hc
  refine lv_iconst (v := nI 0) hx hb dL_law_46 (by decide) ?_
  refine lv_istore (lv' := [(5, .int (nI 0)), (4, .int (nI st)), (3, .ref (ad 0)), (2, .ref o), (1, .int (nI ti)), (0, .ref b)]) hx hb dL_law_47 hl (by decide) rfl (fun ls hl => ?_)
  refine q_forg (fun (i : Nat) (H : Heap) (locs : List Loc) (ls : Array Slot) => va_S A s.heap H locs ∧ lv_has ls 17 [(5, .int (nI i)), (4, .int (nI st)), (3, .ref (ad 0)), (2, .ref o), (1, .int (nI ti)), (0, .ref b)] ∧ ST D T ad o sc N sf (d + 24 * i) H) 3 820 44000 ?_ ?_ ?_
  · skip
    exact ⟨hS, lv_sub hl [0, 1, 2, 3, 4, 5] rfl, (by exact hst.le (by omega))⟩
  · skip
    intro i H locs ls hi9 hin9 hnext
    obtain ⟨hS, hl, hst⟩ := hin9
    refine lv_iload hx hb dL_law_49 (lv_at hl 0 rfl) ?_
    refine lv_iconst (v := nI 3) hx hb dL_law_51 (by decide) ?_
    refine lv_icmp_ge (tgt := 77) hx hb dL_law_52 (by decide) (fun c52 => ?_) (fun c52 => ?_)
    · skip
      have c52 : 3 ≤ i := (nc_le (a := 3) (b := i) (by omega) (by omega)).mp c52
      omega
    · skip
      have c52 : ¬ (3 ≤ i) := fun q9 => c52 ((nc_le (a := 3) (b := i) (by omega) (by omega)).mpr q9)
      refine lv_aload_n hx hb dL_law_55 rfl (lv_at hl 3 rfl) ?_
      obtain ⟨fs9, hob⟩ := hst.ob
      refine va_calli (va_runV (As := []) (rest := []) ⟨hx, hb, hml, hown, hts⟩ (conX4_actSet l D T ad o sc N sf (d + 24 * i) (by omega) (by omega)) (cwV 0 hts gL_law_X4_actSet rfl rfl rfl (by decide +kernel) ⟨Nat.le_of_ble_eq_true rfl, Nat.le_of_ble_eq_true rfl⟩) (preV hK hob rfl hst) rfl rfl hl.1 rfl (lv_room (Nat.le_of_ble_eq_true rfl)) dL_law_56 ⟨by show _ ≤ 600086; omega, by show _ ≤ 7301442; omega⟩) hS (fun q _ h9 => (hA q h9)) (fun q h9 => (hA q h9)) (fun r u t H1 locs1 ht hvm hw9 hB hz1 hk1 hS => ?_)
      try dsimp only at hB
      rw [ht] at hB
      rw [hw9]
      replace hst := hB
      refine lv_if_eq (tgt := 69) hx hb dL_law_59 (by decide) (fun c59 => ?_) (fun c59 => ?_)
      · skip
        have c59 : 1 = 0 := (nc_eq (a := 1) (b := 0) (by omega) (by omega)).mp c59
        omega
      · skip
        have c59 : ¬ (1 = 0) := fun q9 => c59 ((nc_eq (a := 1) (b := 0) (by omega) (by omega)).mpr q9)
        refine lv_aload_n hx hb dL_law_62 rfl (lv_at hl 3 rfl) ?_
        obtain ⟨fs9, hob⟩ := hst.ob
        refine va_calli (va_runV (As := []) (rest := []) ⟨hx, hb, hml, hown, hts⟩ (conX4_actFunction l D T ad o sc N sf ((d + 24 * i) + 12) (by omega) (by omega)) (cwV 0 hts gL_law_X4_actFunction rfl rfl rfl (by decide +kernel) ⟨Nat.le_of_ble_eq_true rfl, Nat.le_of_ble_eq_true rfl⟩) (preV hK hob rfl hst) rfl rfl hl.1 rfl (lv_room (Nat.le_of_ble_eq_true rfl)) dL_law_63 ⟨by show _ ≤ 600086; omega, by show _ ≤ 7301442; omega⟩) hS (fun q _ h9 => (hA q h9)) (fun q h9 => (hA q h9)) (fun r u t H1 locs1 ht hvm hw9 hB hz1 hk1 hS => ?_)
        try dsimp only at hB
        rw [ht] at hB
        rw [hw9]
        replace hst := hB
        refine lv_if_ne (tgt := 71) hx hb dL_law_66 (by decide) (fun c66 => ?_) (fun c66 => ?_)
        · skip
          have c66 : ¬ (1 = 0) := fun q9 => c66 ((nc_eq (a := 1) (b := 0) (by omega) (by omega)).mpr q9)
          refine lv_iinc (v := nI (i + 1)) (lv' := [(5, .int (nI (i + 1))), (4, .int (nI st)), (3, .ref (ad 0)), (2, .ref o), (1, .int (nI ti)), (0, .ref b)]) hx hb dL_law_71 hl (k := 0) rfl (inc_1 _) (by decide) rfl (fun ls hl => ?_)
          refine lv_goto (tgt := 49) hx hb dL_law_74 (by decide) ?_
          exact W.widen (by omega) (by omega) (hnext _ _ _ ⟨hS, lv_sub hl [0, 1, 2, 3, 4, 5] rfl, (by exact hst.le (by omega))⟩)
        · skip
          have c66 : 1 = 0 := (nc_eq (a := 1) (b := 0) (by omega) (by omega)).mp c66
          omega
  · skip
    intro H locs ls hin9
    obtain ⟨hS, hl, hst⟩ := hin9
    refine lv_iload hx hb dL_law_49 (lv_at hl 0 rfl) ?_
    refine lv_iconst (v := nI 3) hx hb dL_law_51 (by decide) ?_
    refine lv_icmp_ge (tgt := 77) hx hb dL_law_52 (by decide) (fun c52 => ?_) (fun c52 => ?_)
    · skip
      have c52 : 3 ≤ 3 := (nc_le (a := 3) (b := 3) (by omega) (by omega)).mp c52
      obtain ⟨dr, F, V, sr, C, L, U, la, vv, hdr, ho9, hw, hinv⟩ := hst
      have hcs : CS D T ad o sc N sf (d + 24 * 3) F V L U H := ⟨dr, sr, C, la, vv, hdr, ho9, hinv.1, hw⟩
      have hV : ∀ i g : Nat, i < 5 → g < 201 → inL (V i g) := fun i g hi hg => (hinv.2.2 i g hi hg).2
      refine lv_aload_n hx hb dL_law_77 rfl (lv_at hl 2 rfl) ?_
      have hcs8 := hcs
      obtain ⟨dr, sr, C, la, vv, hdr, ho9, hsn, hw⟩ := hcs8
      refine va_calll (va_runV (As := []) (rest := []) ⟨hx, hb, hml, hown, hts⟩ (conX3_digest l D T ad F V sr C hsn) (cwV 0 hts gL_law_X3_digest rfl rfl rfl (by decide +kernel) ⟨Nat.le_of_ble_eq_true rfl, Nat.le_of_ble_eq_true rfl⟩) (preV hK hw.pl.o rfl hw.pl) rfl rfl hl.1 rfl (lv_room (Nat.le_of_ble_eq_true rfl)) dL_law_78 ⟨by show _ ≤ 600086; omega, by show _ ≤ 7301442; omega⟩) hS (fun q _ h9 => (by obtain ⟨i9, h8, rfl⟩ := h9; exact hA _ (by have := hw.1 i9 h8; omega))) (fun q h9 => (by obtain ⟨i9, h8, rfl⟩ := h9; exact hA _ (by have := hw.1 i9 h8; omega))) (fun r u t H1 locs1 ht hvm hw9 hB hz1 hk1 hS => ?_)
      try dsimp only at hB
      rw [ht] at hB
      rw [hw9]
      obtain ⟨C9, hB⟩ := hB
      replace hcs : CS D T ad o sc N sf (d + 24 * 3) F V L U H1 := ⟨dr, ((dgA F sr 8).2), _, la, vv, by omega, by omega, (dgA_le hsn), hw.setP hB (fun q h1 h2 => hk1 q h1 h2)⟩
      obtain ⟨d0, hd0⟩ : ∃ x8 : Int64, x8 = dgG F V sr := ⟨_, rfl⟩
      rw [← hd0]
      have hd8 : ∀ s8 : SRs, dgG F V s8 = d0 := fun s8 => (dgG_ext (fun _ _ _ _ => rfl) (fun _ _ _ _ => rfl) s8 sr).trans hd0.symm
      refine lv_lstore (lv' := [(5, .long d0), (4, .int (nI st)), (3, .ref (ad 0)), (2, .ref o), (1, .int (nI ti)), (0, .ref b)]) hx hb dL_law_81 hl (by decide) rfl (fun ls hl => ?_)
      refine seg_sets hc9 hN hA (by omega) (by omega) hS (by omega) hcs (lv_sub hl [0, 1, 2, 3, 4, 5] rfl) (fun H1 locs1 ls hS hl hcs => ?_)
      refine seg_all hc9 hN hA (by omega) (by omega) hS (by omega) hcs hl (fun H1 locs1 ls hS hl hcs => ?_)
      refine seg_fn hc9 hN hA (by omega) (by omega) hS (by omega) hcs hV hl (fun H1 locs1 ls hS hl hcs => ?_)
      refine seg_ops hc9 hN hA (by omega) (by omega) hS (by omega) hcs hV hd8 hl (fun F1 V1 H1 locs1 ls hS hl hx9 => ?_)
      obtain ⟨hE, hEV, hcs⟩ := hx9
      exact kk1141 H1 locs1 ls hS (lv_sub hl [1, 2, 3, 4, 5] rfl) ((hcs.st hinv hE hEV).le (by omega))
    · skip
      have c52 : ¬ (3 ≤ 3) := fun q9 => c52 ((nc_le (a := 3) (b := 3) (by omega) (by omega)).mpr q9)
      omega
