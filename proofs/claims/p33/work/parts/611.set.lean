/-! THE LAW: one set -/
theorem ior_n (a b : Nat) : nI a ||| nI b = nI (a ||| b) := by
  refine Int32.toBitVec_inj.mp ?_
  show BitVec.ofNat 32 a ||| BitVec.ofNat 32 b = BitVec.ofNat 32 (a ||| b)
  exact (BitVec.ofNat_or ..).symm
set_option maxHeartbeats 40000000 in
set_option maxRecDepth 100000 in
theorem seg_set {p : Program} {l : Launch} {e : Env} {s : State} {m : MethodId} {args : Array Value} {below : List Frame} {meth : Method} {c : Code} {Q : State → Prop} {D : va_G} {T : Nat → ClassId} {A : Nat → Prop} {H : Heap} {locs : List Loc} {cells slots : Nat} {ls : Array Slot} (hc : LCx p s m args c D T) {ad : Nat → Nat} {o sc N : Nat} {sf : Nat → Int32} (hN : N < 2 ^ 30) (hA : ∀ z : Nat, o ≤ z → A z) (hcm : cells ≤ 600086) (hsm : slots ≤ 7301442) (hS : va_S A s.heap H locs) {d i : Nat} {F V : Nat → Nat → Int32} {L : Nat → SL} {U : Nat → Nat → Int32} {b ti st : Nat} {d0 : Int64} (hd : d < 2 ^ 29) (hi : i < 8) (hcs : CS D T ad o sc N sf d F V L U H) (hl : lv_has ls 17 [(11, .int (nI (lenL (runs (F i)) (runs (F i)).1))), (10, .int (nI (cntL (runs (F i)) (runs (F i)).1))), (9, .int (nI ((runs (F i)).1))), (8, .int (nI i)), (7, .int (nI (sumK (fun k => (runs (F k)).1) i))), (5, .long d0), (4, .int (nI st)), (3, .ref (ad 0)), (2, .ref o), (1, .int (nI ti)), (0, .ref b)]) (kk676 : ∀ (H1 : Heap) (locs1 : List Loc) (ls1 : Array Slot), va_S A s.heap H1 locs1 → lv_has ls1 17 [(8, .int (nI i)), (7, .int (nI (sumK (fun k => (runs (F k)).1) (i + 1)))), (5, .long d0), (4, .int (nI st)), (3, .ref (ad 0)), (2, .ref o), (1, .int (nI ti)), (0, .ref b)] → CS D T ad o sc N sf (d + 1) F V L U H1 → W p l e room_1 s m args below meth c H1 locs1 cells slots Q (F0 m 676 ls1 [])) : W p l e room_1 s m args below meth c H locs cells slots Q (F0 m 321 ls []) := by
  obtain ⟨hx, hb, hml, hown, hts, hK⟩ := hc
  have hrn9 := runs_ok (F i)
  have hrl9 := hrn9.1.le
  have hcn9 := hrn9.count
  have hcb9 := cntB_le (pB (F i)) 201
  have hln9 := hrn9.len
  have hob9 := oddB_neg (pB (F i)) 201
  have hob8 : oddB (pB (F i)) (2 * 100 + 1) = oddB (pB (F i)) 201 := rfl
  have hgm9 := gaps_many (F i)
  obtain ⟨t9, ht9, et9, hu9⟩ := cov_all F (255 - 2 ^ i) (k := i) (by omega)
  refine lv_iload hx hb dL_law_321 (lv_at hl 4 rfl) ?_
  refine lv_iload hx hb dL_law_323 (lv_at hl 2 rfl) ?_
  refine lv_iadd hx hb dL_law_325 ?_
  rw [nI_add]
  refine W.eq (congrArg (fun z9 => F0 m 326 ls [.int (nI z9)]) (show sumK (fun k => (runs (F k)).1) i + (runs (F i)).1 = sumK (fun k => (runs (F k)).1) (i + 1) from rfl)) ?_
  refine lv_istore (lv' := [(7, .int (nI (sumK (fun k => (runs (F k)).1) (i + 1)))), (11, .int (nI (lenL (runs (F i)) (runs (F i)).1))), (10, .int (nI (cntL (runs (F i)) (runs (F i)).1))), (9, .int (nI ((runs (F i)).1))), (8, .int (nI i)), (5, .long d0), (4, .int (nI st)), (3, .ref (ad 0)), (2, .ref o), (1, .int (nI ti)), (0, .ref b)]) hx hb dL_law_326 hl (by decide) rfl (fun ls hl => ?_)
  refine lv_aload_n hx hb dL_law_328 rfl (lv_at hl 7 rfl) ?_
  refine lv_iload hx hb dL_law_329 (lv_at hl 4 rfl) ?_
  refine lv_iconst (v := nI 4) hx hb dL_law_331 (by decide) ?_
  have hcs8 := hcs
  obtain ⟨dr, sr, C, la, vv, hdr, ho9, hsn, hw⟩ := hcs8
  refine va_calli (va_runV (As := [.int (nI i), .int (nI 4)]) (rest := []) ⟨hx, hb, hml, hown, hts⟩ (conX3_ofSet l D T ad F V sr C i 4 (by omega) (by omega) hsn) (cwV 2 hts gL_law_X3_ofSet rfl rfl rfl (by decide +kernel) ⟨Nat.le_of_ble_eq_true rfl, Nat.le_of_ble_eq_true rfl⟩) (preV hK hw.pl.o rfl hw.pl) rfl rfl hl.1 rfl (lv_room (Nat.le_of_ble_eq_true rfl)) dL_law_332 ⟨by show _ ≤ 600086; omega, by show _ ≤ 7301442; omega⟩) hS (fun q _ h9 => (by obtain ⟨i9, h8, rfl⟩ := h9; exact hA _ (by have := hw.1 i9 h8; omega))) (fun q h9 => (by obtain ⟨i9, h8, rfl⟩ := h9; exact hA _ (by have := hw.1 i9 h8; omega))) (fun r u t H1 locs1 ht hvm hw9 hB hz1 hk1 hS => ?_)
  try dsimp only at hB
  rw [ht] at hB
  rw [hw9]
  replace hcs : CS D T ad o sc N sf (d) F V L U H1 := ⟨dr, (facSr (F i) 4 sr), _, la, vv, by omega, by omega, (facSr_le hsn), hw.setP hB (fun q h1 h2 => hk1 q h1 h2)⟩
  rw [os4]
  refine lv_istore (lv' := [(13, .int (nI ((gaps (F i)).1))), (7, .int (nI (sumK (fun k => (runs (F k)).1) (i + 1)))), (11, .int (nI (lenL (runs (F i)) (runs (F i)).1))), (10, .int (nI (cntL (runs (F i)) (runs (F i)).1))), (9, .int (nI ((runs (F i)).1))), (8, .int (nI i)), (5, .long d0), (4, .int (nI st)), (3, .ref (ad 0)), (2, .ref o), (1, .int (nI ti)), (0, .ref b)]) hx hb dL_law_335 hl (by decide) rfl (fun ls hl => ?_)
  refine lv_iload hx hb dL_law_337 (lv_at hl 3 rfl) ?_
  refine lv_aload_n hx hb dL_law_339 rfl (lv_at hl 8 rfl) ?_
  refine lv_iload hx hb dL_law_340 (lv_at hl 5 rfl) ?_
  refine lv_iconst (v := nI 0) hx hb dL_law_342 (by decide) ?_
  have hcs8 := hcs
  obtain ⟨dr, sr, C, la, vv, hdr, ho9, hsn, hw⟩ := hcs8
  refine va_calli (va_runV (As := [.int (nI i), .int (nI 0)]) (rest := [.int (nI (cntL (runs (F i)) (runs (F i)).1))]) ⟨hx, hb, hml, hown, hts⟩ (conX3_ofSet l D T ad F V sr C i 0 (by omega) (by omega) hsn) (cwV 2 hts gL_law_X3_ofSet rfl rfl rfl (by decide +kernel) ⟨Nat.le_of_ble_eq_true rfl, Nat.le_of_ble_eq_true rfl⟩) (preV hK hw.pl.o rfl hw.pl) rfl rfl hl.1 rfl (lv_room (Nat.le_of_ble_eq_true rfl)) dL_law_343 ⟨by show _ ≤ 600086; omega, by show _ ≤ 7301442; omega⟩) hS (fun q _ h9 => (by obtain ⟨i9, h8, rfl⟩ := h9; exact hA _ (by have := hw.1 i9 h8; omega))) (fun q h9 => (by obtain ⟨i9, h8, rfl⟩ := h9; exact hA _ (by have := hw.1 i9 h8; omega))) (fun r u t H1 locs1 ht hvm hw9 hB hz1 hk1 hS => ?_)
  try dsimp only at hB
  rw [ht] at hB
  rw [hw9]
  replace hcs : CS D T ad o sc N sf (d) F V L U H1 := ⟨dr, (facSr (F i) 0 sr), _, la, vv, by omega, by omega, (facSr_le hsn), hw.setP hB (fun q h1 h2 => hk1 q h1 h2)⟩
  rw [os0]
  refine lv_icmp_ne (tgt := 440) hx hb dL_law_346 (by decide) (fun c346 => ?_) (fun c346 => ?_)
  · skip
    have c346 : ¬ (cntL (runs (F i)) (runs (F i)).1 = cntB (pB (F i)) 201) := fun q9 => c346 ((nc_eq (a := cntL (runs (F i)) (runs (F i)).1) (b := cntB (pB (F i)) 201) (by omega) (by omega)).mpr q9)
    omega
  · skip
    have c346 : cntL (runs (F i)) (runs (F i)).1 = cntB (pB (F i)) 201 := (nc_eq (a := cntL (runs (F i)) (runs (F i)).1) (b := cntB (pB (F i)) 201) (by omega) (by omega)).mp c346
    refine lv_iload hx hb dL_law_349 (lv_at hl 2 rfl) ?_
    refine lv_aload_n hx hb dL_law_351 rfl (lv_at hl 8 rfl) ?_
    refine lv_iload hx hb dL_law_352 (lv_at hl 5 rfl) ?_
    refine lv_iconst (v := nI 2) hx hb dL_law_354 (by decide) ?_
    have hcs8 := hcs
    obtain ⟨dr, sr, C, la, vv, hdr, ho9, hsn, hw⟩ := hcs8
    refine va_calli (va_runV (As := [.int (nI i), .int (nI 2)]) (rest := [.int (nI (lenL (runs (F i)) (runs (F i)).1))]) ⟨hx, hb, hml, hown, hts⟩ (conX3_ofSet l D T ad F V sr C i 2 (by omega) (by omega) hsn) (cwV 2 hts gL_law_X3_ofSet rfl rfl rfl (by decide +kernel) ⟨Nat.le_of_ble_eq_true rfl, Nat.le_of_ble_eq_true rfl⟩) (preV hK hw.pl.o rfl hw.pl) rfl rfl hl.1 rfl (lv_room (Nat.le_of_ble_eq_true rfl)) dL_law_355 ⟨by show _ ≤ 600086; omega, by show _ ≤ 7301442; omega⟩) hS (fun q _ h9 => (by obtain ⟨i9, h8, rfl⟩ := h9; exact hA _ (by have := hw.1 i9 h8; omega))) (fun q h9 => (by obtain ⟨i9, h8, rfl⟩ := h9; exact hA _ (by have := hw.1 i9 h8; omega))) (fun r u t H1 locs1 ht hvm hw9 hB hz1 hk1 hS => ?_)
    try dsimp only at hB
    rw [ht] at hB
    rw [hw9]
    replace hcs : CS D T ad o sc N sf (d) F V L U H1 := ⟨dr, (facSr (F i) 2 sr), _, la, vv, by omega, by omega, (facSr_le hsn), hw.setP hB (fun q h1 h2 => hk1 q h1 h2)⟩
    rw [os2]
    refine lv_icmp_ne (tgt := 440) hx hb dL_law_358 (by decide) (fun c358 => ?_) (fun c358 => ?_)
    · skip
      have c358 : ¬ (lenL (runs (F i)) (runs (F i)).1 = oddB (pB (F i)) 201) := fun q9 => c358 ((nc_eq (a := lenL (runs (F i)) (runs (F i)).1) (b := oddB (pB (F i)) 201) (by omega) (by omega)).mpr q9)
      omega
    · skip
      have c358 : lenL (runs (F i)) (runs (F i)).1 = oddB (pB (F i)) 201 := (nc_eq (a := lenL (runs (F i)) (runs (F i)).1) (b := oddB (pB (F i)) 201) (by omega) (by omega)).mp c358
      refine lv_aload_n hx hb dL_law_361 rfl (lv_at hl 8 rfl) ?_
      refine lv_iload hx hb dL_law_362 (lv_at hl 5 rfl) ?_
      refine lv_iconst (v := nI 3) hx hb dL_law_364 (by decide) ?_
      have hcs8 := hcs
      obtain ⟨dr, sr, C, la, vv, hdr, ho9, hsn, hw⟩ := hcs8
      refine va_calli (va_runV (As := [.int (nI i), .int (nI 3)]) (rest := []) ⟨hx, hb, hml, hown, hts⟩ (conX3_ofSet l D T ad F V sr C i 3 (by omega) (by omega) hsn) (cwV 2 hts gL_law_X3_ofSet rfl rfl rfl (by decide +kernel) ⟨Nat.le_of_ble_eq_true rfl, Nat.le_of_ble_eq_true rfl⟩) (preV hK hw.pl.o rfl hw.pl) rfl rfl hl.1 rfl (lv_room (Nat.le_of_ble_eq_true rfl)) dL_law_365 ⟨by show _ ≤ 600086; omega, by show _ ≤ 7301442; omega⟩) hS (fun q _ h9 => (by obtain ⟨i9, h8, rfl⟩ := h9; exact hA _ (by have := hw.1 i9 h8; omega))) (fun q h9 => (by obtain ⟨i9, h8, rfl⟩ := h9; exact hA _ (by have := hw.1 i9 h8; omega))) (fun r u t H1 locs1 ht hvm hw9 hB hz1 hk1 hS => ?_)
      try dsimp only at hB
      rw [ht] at hB
      rw [hw9]
      replace hcs : CS D T ad o sc N sf (d) F V L U H1 := ⟨dr, (facSr (F i) 3 sr), _, la, vv, by omega, by omega, (facSr_le hsn), hw.setP hB (fun q h1 h2 => hk1 q h1 h2)⟩
      obtain ⟨x3, hx3, ex3⟩ := os3 (F i) sr
      rw [ex3]
      refine lv_iload hx hb dL_law_368 (lv_at hl 4 rfl) ?_
      refine lv_icmp_gt (tgt := 440) hx hb dL_law_370 (by decide) (fun c370 => ?_) (fun c370 => ?_)
      · skip
        have c370 : (runs (F i)).1 < x3 := (nc_lt (a := (runs (F i)).1) (b := x3) (by omega) (by omega)).mp c370
        omega
      · skip
        have c370 : ¬ ((runs (F i)).1 < x3) := fun q9 => c370 ((nc_lt (a := (runs (F i)).1) (b := x3) (by omega) (by omega)).mpr q9)
        refine lv_iload hx hb dL_law_373 (lv_at hl 0 rfl) ?_
        refine lv_iload hx hb dL_law_375 (lv_at hl 4 rfl) ?_
        refine lv_isub hx hb dL_law_377 ?_
        refine va_mabs hx hb (hml.trans hl.1.symm) hown (hts (.methodLink RL 49 Lib.Math.abs.name) (by decide +kernel)) (hts (.static Lib.Math.abs.name) (by decide +kernel)) (hts (.initialized "java/lang/Math") (by decide +kernel)) (hts (.code Lib.Math.abs.name Lib.Math.abs.code 1 (some .int)) (by decide +kernel)) (Nat.le_of_ble_eq_true rfl) (Nat.le_of_ble_eq_true rfl) (by show _ ≤ 600086; omega) (by show _ ≤ 7301442; omega) dL_law_378 ?_
        rw [abs_ij (by omega) (by omega)]
        refine W.eq (g2 := F0 m 381 ls [.int (nI ((gaps (F i)).1 - (runs (F i)).1 + ((runs (F i)).1 - (gaps (F i)).1)))]) rfl ?_
        refine lv_iconst (v := nI 1) hx hb dL_law_381 (by decide) ?_
        refine lv_icmp_gt (tgt := 440) hx hb dL_law_382 (by decide) (fun c382 => ?_) (fun c382 => ?_)
        · skip
          have c382 : 1 < (gaps (F i)).1 - (runs (F i)).1 + ((runs (F i)).1 - (gaps (F i)).1) := (nc_lt (a := 1) (b := (gaps (F i)).1 - (runs (F i)).1 + ((runs (F i)).1 - (gaps (F i)).1)) (by omega) (by omega)).mp c382
          omega
        · skip
          have c382 : ¬ (1 < (gaps (F i)).1 - (runs (F i)).1 + ((runs (F i)).1 - (gaps (F i)).1)) := fun q9 => c382 ((nc_lt (a := 1) (b := (gaps (F i)).1 - (runs (F i)).1 + ((runs (F i)).1 - (gaps (F i)).1)) (by omega) (by omega)).mpr q9)
          refine lv_aload_n hx hb dL_law_385 rfl (lv_at hl 8 rfl) ?_
          refine lv_iload hx hb dL_law_386 (lv_at hl 5 rfl) ?_
          refine lv_iconst (v := nI 5) hx hb dL_law_388 (by decide) ?_
          have hcs8 := hcs
          obtain ⟨dr, sr, C, la, vv, hdr, ho9, hsn, hw⟩ := hcs8
          refine va_calli (va_runV (As := [.int (nI i), .int (nI 5)]) (rest := []) ⟨hx, hb, hml, hown, hts⟩ (conX3_ofSet l D T ad F V sr C i 5 (by omega) (by omega) hsn) (cwV 2 hts gL_law_X3_ofSet rfl rfl rfl (by decide +kernel) ⟨Nat.le_of_ble_eq_true rfl, Nat.le_of_ble_eq_true rfl⟩) (preV hK hw.pl.o rfl hw.pl) rfl rfl hl.1 rfl (lv_room (Nat.le_of_ble_eq_true rfl)) dL_law_389 ⟨by show _ ≤ 600086; omega, by show _ ≤ 7301442; omega⟩) hS (fun q _ h9 => (by obtain ⟨i9, h8, rfl⟩ := h9; exact hA _ (by have := hw.1 i9 h8; omega))) (fun q h9 => (by obtain ⟨i9, h8, rfl⟩ := h9; exact hA _ (by have := hw.1 i9 h8; omega))) (fun r u t H1 locs1 ht hvm hw9 hB hz1 hk1 hS => ?_)
          try dsimp only at hB
          rw [ht] at hB
          rw [hw9]
          replace hcs : CS D T ad o sc N sf (d) F V L U H1 := ⟨dr, (facSr (F i) 5 sr), _, la, vv, by omega, by omega, (facSr_le hsn), hw.setP hB (fun q h1 h2 => hk1 q h1 h2)⟩
          obtain ⟨x5, hx5, ex5⟩ := os5 (F i) sr
          rw [ex5]
          refine lv_bipush (v := nI 100) hx hb dL_law_392 (by decide) ?_
          refine lv_iload hx hb dL_law_394 (lv_at hl 2 rfl) ?_
          refine lv_isub hx hb dL_law_396 ?_
          rw [pk_sub (a := 100) (b := lenL (runs (F i)) (runs (F i)).1) (by omega)]
          refine lv_icmp_gt (tgt := 440) hx hb dL_law_397 (by decide) (fun c397 => ?_) (fun c397 => ?_)
          · skip
            have c397 : 100 - (lenL (runs (F i)) (runs (F i)).1) < x5 := (nc_lt (a := 100 - (lenL (runs (F i)) (runs (F i)).1)) (b := x5) (by omega) (by omega)).mp c397
            omega
          · skip
            have c397 : ¬ (100 - (lenL (runs (F i)) (runs (F i)).1) < x5) := fun q9 => c397 ((nc_lt (a := 100 - (lenL (runs (F i)) (runs (F i)).1)) (b := x5) (by omega) (by omega)).mpr q9)
            refine lv_aload_n hx hb dL_law_400 rfl (lv_at hl 8 rfl) ?_
            refine lv_iconst (v := nI 1) hx hb dL_law_401 (by decide) ?_
            refine lv_iload hx hb dL_law_402 (lv_at hl 5 rfl) ?_
            refine lv_ishl hx hb dL_law_404 ?_
            have hp9_i := p2_le (show i < 8 by omega)
            rw [two_k (by omega)]
            refine lv_iload hx hb dL_law_405 (lv_at hl 5 rfl) ?_
            have hcs8 := hcs
            obtain ⟨dr, sr, C, la, vv, hdr, ho9, hsn, hw⟩ := hcs8
            refine va_calli (va_runV (As := [.int (nI (2 ^ i)), .int (nI i)]) (rest := []) ⟨hx, hb, hml, hown, hts⟩ (conX3_cover l D T ad F V sr C i (2 ^ i) (by omega) (by omega)) (cwV 2 hts gL_law_X3_cover rfl rfl rfl (by decide +kernel) ⟨Nat.le_of_ble_eq_true rfl, Nat.le_of_ble_eq_true rfl⟩) (preV hK hw.pl.o rfl hw.pl) rfl rfl hl.1 rfl (lv_room (Nat.le_of_ble_eq_true rfl)) dL_law_407 ⟨by show _ ≤ 600086; omega, by show _ ≤ 7301442; omega⟩) hS (fun q _ h9 => (by obtain ⟨i9, h8, rfl⟩ := h9; exact hA _ (by have := hw.1 i9 h8; omega))) (fun q h9 => (by obtain ⟨i9, h8, rfl⟩ := h9; exact hA _ (by have := hw.1 i9 h8; omega))) (fun r u t H1 locs1 ht hvm hw9 hB hz1 hk1 hS => ?_)
            try dsimp only at hB
            rw [ht] at hB
            rw [hw9]
            obtain ⟨C9, hB⟩ := hB
            replace hcs : CS D T ad o sc N sf (d) F V L U H1 := ⟨dr, sr, _, la, vv, by omega, by omega, hsn, hw.setP hB (fun q h1 h2 => hk1 q h1 h2)⟩
            rw [(cov_self F (k := i) (by omega)).2]
            refine lv_iload hx hb dL_law_410 (lv_at hl 4 rfl) ?_
            refine lv_icmp_ne (tgt := 440) hx hb dL_law_412 (by decide) (fun c412 => ?_) (fun c412 => ?_)
            · skip
              have c412 : ¬ ((runs (F i)).1 = (runs (F i)).1) := fun q9 => c412 ((nc_eq (a := (runs (F i)).1) (b := (runs (F i)).1) (by omega) (by omega)).mpr q9)
              omega
            · skip
              have c412 : (runs (F i)).1 = (runs (F i)).1 := (nc_eq (a := (runs (F i)).1) (b := (runs (F i)).1) (by omega) (by omega)).mp c412
              refine lv_aload_n hx hb dL_law_415 rfl (lv_at hl 8 rfl) ?_
              refine lv_iload hx hb dL_law_416 (lv_at hl 5 rfl) ?_
              refine lv_iload hx hb dL_law_418 (lv_at hl 5 rfl) ?_
              have hcs8 := hcs
              obtain ⟨dr, sr, C, la, vv, hdr, ho9, hsn, hw⟩ := hcs8
              refine vp_callSi (va_runV (As := [.int (nI i), .int (nI i)]) (rest := []) ⟨hx, hb, hml, hown, hts⟩ (conX3_beside l D T ad F V sr C i i (by omega) (by omega)) (cwV 2 hts gL_law_X3_beside rfl rfl rfl (by decide +kernel) ⟨Nat.le_of_ble_eq_true rfl, Nat.le_of_ble_eq_true rfl⟩) (preV hK hw.pl.o rfl hw.pl) rfl rfl hl.1 rfl (lv_room (Nat.le_of_ble_eq_true rfl)) dL_law_420 ⟨by show _ ≤ 600086; omega, by show _ ≤ 7301442; omega⟩).run (fun r1 hr1 => ?_)
              rw [hr1]
              rw [bes_self]
              refine lv_if_ne (tgt := 440) hx hb dL_law_423 (by decide) (fun c423 => ?_) (fun c423 => ?_)
              · skip
                have c423 : ¬ (0 = 0) := fun q9 => c423 ((nc_eq (a := 0) (b := 0) (by omega) (by omega)).mpr q9)
                omega
              · skip
                have c423 : 0 = 0 := (nc_eq (a := 0) (b := 0) (by omega) (by omega)).mp c423
                refine lv_aload_n hx hb dL_law_426 rfl (lv_at hl 8 rfl) ?_
                refine lv_iload hx hb dL_law_427 (lv_at hl 5 rfl) ?_
                refine lv_iconst (v := nI 0) hx hb dL_law_429 (by decide) ?_
                refine lv_iload hx hb dL_law_430 (lv_at hl 5 rfl) ?_
                have hcs8 := hcs
                obtain ⟨dr, sr, C, la, vv, hdr, ho9, hsn, hw⟩ := hcs8
                refine vp_callSi (va_runV (As := [.int (nI i), .int (nI 0), .int (nI i)]) (rest := []) ⟨hx, hb, hml, hown, hts⟩ (conX3_meetWith l D T ad F V sr C i i (nI 0) (by omega) (by omega) (by decide) (by decide)) (cwV 3 hts gL_law_X3_meetWith rfl rfl rfl (by decide +kernel) ⟨Nat.le_of_ble_eq_true rfl, Nat.le_of_ble_eq_true rfl⟩) (preV hK hw.pl.o rfl hw.pl) rfl rfl hl.1 rfl (lv_room (Nat.le_of_ble_eq_true rfl)) dL_law_432 ⟨by show _ ≤ 600086; omega, by show _ ≤ 7301442; omega⟩).run (fun r2 hr2 => ?_)
                rw [hr2]
                rw [mt_self, lenZ_n]
                refine lv_iload hx hb dL_law_435 (lv_at hl 2 rfl) ?_
                refine lv_icmp_eq (tgt := 442) hx hb dL_law_437 (by decide) (fun c437 => ?_) (fun c437 => ?_)
                · skip
                  have c437 : oddB (pB (F i)) (2 * 100 + 1) = lenL (runs (F i)) (runs (F i)).1 := (nc_eq (a := oddB (pB (F i)) (2 * 100 + 1)) (b := lenL (runs (F i)) (runs (F i)).1) (by omega) (by omega)).mp c437
                  refine lv_aload_n hx hb dL_law_442 rfl (lv_at hl 8 rfl) ?_
                  refine lv_sipush (v := nI 255) hx hb dL_law_443 (by decide) ?_
                  refine lv_iconst (v := nI 1) hx hb dL_law_446 (by decide) ?_
                  refine lv_iload hx hb dL_law_447 (lv_at hl 5 rfl) ?_
                  refine lv_ishl hx hb dL_law_449 ?_
                  have hp9_i := p2_le (show i < 8 by omega)
                  rw [two_k (by omega)]
                  refine lv_isub hx hb dL_law_450 ?_
                  rw [pk_sub (a := 255) (b := 2 ^ i) (by omega)]
                  refine lv_iload hx hb dL_law_451 (lv_at hl 5 rfl) ?_
                  have hcs8 := hcs
                  obtain ⟨dr, sr, C, la, vv, hdr, ho9, hsn, hw⟩ := hcs8
                  refine va_calli (va_runV (As := [.int (nI (255 - (2 ^ i))), .int (nI i)]) (rest := []) ⟨hx, hb, hml, hown, hts⟩ (conX3_cover l D T ad F V sr C i (255 - (2 ^ i)) (by omega) (by omega)) (cwV 2 hts gL_law_X3_cover rfl rfl rfl (by decide +kernel) ⟨Nat.le_of_ble_eq_true rfl, Nat.le_of_ble_eq_true rfl⟩) (preV hK hw.pl.o rfl hw.pl) rfl rfl hl.1 rfl (lv_room (Nat.le_of_ble_eq_true rfl)) dL_law_453 ⟨by show _ ≤ 600086; omega, by show _ ≤ 7301442; omega⟩) hS (fun q _ h9 => (by obtain ⟨i9, h8, rfl⟩ := h9; exact hA _ (by have := hw.1 i9 h8; omega))) (fun q h9 => (by obtain ⟨i9, h8, rfl⟩ := h9; exact hA _ (by have := hw.1 i9 h8; omega))) (fun r u t H1 locs1 ht hvm hw9 hB hz1 hk1 hS => ?_)
                  try dsimp only at hB
                  rw [ht] at hB
                  rw [hw9]
                  obtain ⟨C9, hB⟩ := hB
                  replace hcs : CS D T ad o sc N sf (d) F V L U H1 := ⟨dr, sr, _, la, vv, by omega, by omega, hsn, hw.setP hB (fun q h1 h2 => hk1 q h1 h2)⟩
                  refine lv_istore (lv' := [(14, .int (covV F (255 - (2 ^ i)) (F i))), (13, .int (nI ((gaps (F i)).1))), (7, .int (nI (sumK (fun k => (runs (F k)).1) (i + 1)))), (11, .int (nI (lenL (runs (F i)) (runs (F i)).1))), (10, .int (nI (cntL (runs (F i)) (runs (F i)).1))), (9, .int (nI ((runs (F i)).1))), (8, .int (nI i)), (5, .long d0), (4, .int (nI st)), (3, .ref (ad 0)), (2, .ref o), (1, .int (nI ti)), (0, .ref b)]) hx hb dL_law_456 hl (by decide) rfl (fun ls hl => ?_)
                  refine lv_aload_n hx hb dL_law_458 rfl (lv_at hl 9 rfl) ?_
                  refine lv_sipush (v := nI 255) hx hb dL_law_459 (by decide) ?_
                  refine lv_iload hx hb dL_law_462 (lv_at hl 6 rfl) ?_
                  have hcs8 := hcs
                  obtain ⟨dr, sr, C, la, vv, hdr, ho9, hsn, hw⟩ := hcs8
                  refine va_calli (va_runV (As := [.int (nI 255), .int (nI i)]) (rest := []) ⟨hx, hb, hml, hown, hts⟩ (conX3_cover l D T ad F V sr C i 255 (by omega) (by omega)) (cwV 2 hts gL_law_X3_cover rfl rfl rfl (by decide +kernel) ⟨Nat.le_of_ble_eq_true rfl, Nat.le_of_ble_eq_true rfl⟩) (preV hK hw.pl.o rfl hw.pl) rfl rfl hl.1 rfl (lv_room (Nat.le_of_ble_eq_true rfl)) dL_law_464 ⟨by show _ ≤ 600086; omega, by show _ ≤ 7301442; omega⟩) hS (fun q _ h9 => (by obtain ⟨i9, h8, rfl⟩ := h9; exact hA _ (by have := hw.1 i9 h8; omega))) (fun q h9 => (by obtain ⟨i9, h8, rfl⟩ := h9; exact hA _ (by have := hw.1 i9 h8; omega))) (fun r u t H1 locs1 ht hvm hw9 hB hz1 hk1 hS => ?_)
                  try dsimp only at hB
                  rw [ht] at hB
                  rw [hw9]
                  obtain ⟨C9, hB⟩ := hB
                  replace hcs : CS D T ad o sc N sf (d) F V L U H1 := ⟨dr, sr, _, la, vv, by omega, by omega, hsn, hw.setP hB (fun q h1 h2 => hk1 q h1 h2)⟩
                  rw [et9]
                  refine lv_istore (lv' := [(15, .int (nI t9)), (14, .int (covV F (255 - (2 ^ i)) (F i))), (13, .int (nI ((gaps (F i)).1))), (7, .int (nI (sumK (fun k => (runs (F k)).1) (i + 1)))), (11, .int (nI (lenL (runs (F i)) (runs (F i)).1))), (10, .int (nI (cntL (runs (F i)) (runs (F i)).1))), (9, .int (nI ((runs (F i)).1))), (8, .int (nI i)), (5, .long d0), (4, .int (nI st)), (3, .ref (ad 0)), (2, .ref o), (1, .int (nI ti)), (0, .ref b)]) hx hb dL_law_467 hl (by decide) rfl (fun ls hl => ?_)
                  refine lv_iload hx hb dL_law_469 (lv_at hl 0 rfl) ?_
                  refine lv_iload hx hb dL_law_471 (lv_at hl 6 rfl) ?_
                  refine lv_icmp_gt (tgt := 549) hx hb dL_law_473 (by decide) (fun c473 => ?_) (fun c473 => ?_)
                  · skip
                    have c473 : (runs (F i)).1 < t9 := (nc_lt (a := (runs (F i)).1) (b := t9) (by omega) (by omega)).mp c473
                    omega
                  · skip
                    have c473 : ¬ ((runs (F i)).1 < t9) := fun q9 => c473 ((nc_lt (a := (runs (F i)).1) (b := t9) (by omega) (by omega)).mpr q9)
                    rcases hu9 with hu9 | ⟨u9, hu8, hu7, hu9⟩
                    · skip
                      rw [hu9] at hl
                      refine lv_iload hx hb dL_law_476 (lv_at hl 1 rfl) ?_
                      refine lv_if_lt (tgt := 488) hx hb dL_law_478 (by decide) (fun c478 => ?_) (fun c478 => ?_)
                      · skip
                        refine lv_aload_n hx hb dL_law_488 rfl (lv_at hl 10 rfl) ?_
                        refine lv_sipush (v := nI 255) hx hb dL_law_489 (by decide) ?_
                        refine lv_iconst (v := nI 1) hx hb dL_law_492 (by decide) ?_
                        refine lv_iload hx hb dL_law_493 (lv_at hl 7 rfl) ?_
                        refine lv_ishl hx hb dL_law_495 ?_
                        have hp9_i := p2_le (show i < 8 by omega)
                        rw [two_k (by omega)]
                        refine lv_isub hx hb dL_law_496 ?_
                        rw [pk_sub (a := 255) (b := 2 ^ i) (by omega)]
                        refine lv_iload hx hb dL_law_497 (lv_at hl 7 rfl) ?_
                        refine lv_iload hx hb dL_law_499 (lv_at hl 7 rfl) ?_
                        have hcs8 := hcs
                        obtain ⟨dr, sr, C, la, vv, hdr, ho9, hsn, hw⟩ := hcs8
                        refine va_calli (va_runV (As := [.int (nI (255 - (2 ^ i))), .int (nI i), .int (nI i)]) (rest := []) ⟨hx, hb, hml, hown, hts⟩ (conX3_saves l D T ad F V sr C i i (255 - (2 ^ i)) (by omega) (by omega) (by omega)) (cwV 3 hts gL_law_X3_saves rfl rfl rfl (by decide +kernel) ⟨Nat.le_of_ble_eq_true rfl, Nat.le_of_ble_eq_true rfl⟩) (preV hK hw.pl.o rfl hw.pl) rfl rfl hl.1 rfl (lv_room (Nat.le_of_ble_eq_true rfl)) dL_law_501 ⟨by show _ ≤ 600086; omega, by show _ ≤ 7301442; omega⟩) hS (fun q _ h9 => (by obtain ⟨i9, h8, rfl⟩ := h9; exact hA _ (by have := hw.1 i9 h8; omega))) (fun q h9 => (by obtain ⟨i9, h8, rfl⟩ := h9; exact hA _ (by have := hw.1 i9 h8; omega))) (fun r u t H1 locs1 ht hvm hw9 hB hz1 hk1 hS => ?_)
                        try dsimp only at hB
                        rw [ht] at hB
                        rw [hw9]
                        obtain ⟨C9, hB⟩ := hB
                        replace hcs : CS D T ad o sc N sf (d) F V L U H1 := ⟨dr, sr, _, la, vv, by omega, by omega, hsn, hw.setP hB (fun q h1 h2 => hk1 q h1 h2)⟩
                        rw [sav_e F (by omega), hu9, if_pos rfl]
                        refine lv_iload hx hb dL_law_504 (lv_at hl 1 rfl) ?_
                        refine lv_if_ge (tgt := 515) hx hb dL_law_506 (by decide) (fun c506 => ?_) (fun c506 => ?_)
                        · skip
                          exact absurd c506 (by decide)
                        · skip
                          refine lv_sipush (v := nI 1000) hx hb dL_law_509 (by decide) ?_
                          refine lv_goto (tgt := 520) hx hb dL_law_512 (by decide) ?_
                          refine lv_icmp_ne (tgt := 549) hx hb dL_law_520 (by decide) (fun c520 => ?_) (fun c520 => ?_)
                          · skip
                            have c520 : ¬ (1000 = 1000) := fun q9 => c520 ((nc_eq (a := 1000) (b := 1000) (by omega) (by omega)).mpr q9)
                            omega
                          · skip
                            have c520 : 1000 = 1000 := (nc_eq (a := 1000) (b := 1000) (by omega) (by omega)).mp c520
                            refine lv_aload_n hx hb dL_law_523 rfl (lv_at hl 10 rfl) ?_
                            refine lv_iconst (v := nI 1) hx hb dL_law_524 (by decide) ?_
                            refine lv_iload hx hb dL_law_525 (lv_at hl 7 rfl) ?_
                            refine lv_ishl hx hb dL_law_527 ?_
                            have hp9_i := p2_le (show i < 8 by omega)
                            rw [two_k (by omega)]
                            have hcs8 := hcs
                            obtain ⟨dr, sr, C, la, vv, hdr, ho9, hsn, hw⟩ := hcs8
                            refine vp_callSi (va_runV (As := [.int (nI (2 ^ i))]) (rest := []) ⟨hx, hb, hml, hown, hts⟩ (conX3_apart l D T ad F V sr C (2 ^ i) (by omega)) (cwV 1 hts gL_law_X3_apart rfl rfl rfl (by decide +kernel) ⟨Nat.le_of_ble_eq_true rfl, Nat.le_of_ble_eq_true rfl⟩) (preV hK hw.pl.o rfl hw.pl) rfl rfl hl.1 rfl (lv_room (Nat.le_of_ble_eq_true rfl)) dL_law_528 ⟨by show _ ≤ 600086; omega, by show _ ≤ 7301442; omega⟩).run (fun r3 hr3 => ?_)
                            rw [hr3]
                            rw [pin_self F (by omega)]
                            refine lv_iload hx hb dL_law_531 (lv_at hl 6 rfl) ?_
                            refine lv_icmp_ne (tgt := 549) hx hb dL_law_533 (by decide) (fun c533 => ?_) (fun c533 => ?_)
                            · skip
                              have c533 : ¬ ((runs (F i)).1 = (runs (F i)).1) := fun q9 => c533 ((nc_eq (a := (runs (F i)).1) (b := (runs (F i)).1) (by omega) (by omega)).mpr q9)
                              omega
                            · skip
                              have c533 : (runs (F i)).1 = (runs (F i)).1 := (nc_eq (a := (runs (F i)).1) (b := (runs (F i)).1) (by omega) (by omega)).mp c533
                              refine lv_aload_n hx hb dL_law_536 rfl (lv_at hl 10 rfl) ?_
                              refine lv_iconst (v := nI 1) hx hb dL_law_537 (by decide) ?_
                              refine lv_iload hx hb dL_law_538 (lv_at hl 7 rfl) ?_
                              refine lv_ishl hx hb dL_law_540 ?_
                              have hp9_i := p2_le (show i < 8 by omega)
                              rw [two_k (by omega)]
                              have hcs8 := hcs
                              obtain ⟨dr, sr, C, la, vv, hdr, ho9, hsn, hw⟩ := hcs8
                              refine vp_callSi (va_runV (As := [.int (nI (2 ^ i))]) (rest := []) ⟨hx, hb, hml, hown, hts⟩ (conX3_pins l D T ad F V sr C (2 ^ i) (by omega)) (cwV 1 hts gL_law_X3_pins rfl rfl rfl (by decide +kernel) ⟨Nat.le_of_ble_eq_true rfl, Nat.le_of_ble_eq_true rfl⟩) (preV hK hw.pl.o rfl hw.pl) rfl rfl hl.1 rfl (lv_room (Nat.le_of_ble_eq_true rfl)) dL_law_541 ⟨by show _ ≤ 600086; omega, by show _ ≤ 7301442; omega⟩).run (fun r4 hr4 => ?_)
                              rw [hr4]
                              rw [pin_self F (by omega)]
                              refine lv_iload hx hb dL_law_544 (lv_at hl 6 rfl) ?_
                              refine lv_icmp_eq (tgt := 551) hx hb dL_law_546 (by decide) (fun c546 => ?_) (fun c546 => ?_)
                              · skip
                                have c546 : (runs (F i)).1 = (runs (F i)).1 := (nc_eq (a := (runs (F i)).1) (b := (runs (F i)).1) (by omega) (by omega)).mp c546
                                refine lv_aload_n hx hb dL_law_551 rfl (lv_at hl 11 rfl) ?_
                                refine lv_bipush (v := nI 8) hx hb dL_law_552 (by decide) ?_
                                have hcs8 := hcs
                                obtain ⟨dr, sr, C, la, vv, hdr, ho9, hsn, hw⟩ := hcs8
                                refine va_calli (va_runV (As := [.int (nI 8)]) (rest := []) ⟨hx, hb, hml, hown, hts⟩ (conX4_draw l D T ad o sc N sf dr F V sr C L U la vv (by omega) (by omega) 8 (by omega) (by omega)) (cwV 1 hts gL_law_X4_draw rfl rfl rfl (by decide +kernel) ⟨Nat.le_of_ble_eq_true rfl, Nat.le_of_ble_eq_true rfl⟩) (preV hK hw.ob rfl hw) rfl rfl hl.1 rfl (lv_room (Nat.le_of_ble_eq_true rfl)) dL_law_554 ⟨by show _ ≤ 600086; omega, by show _ ≤ 7301442; omega⟩) hS (fun q _ h9 => (by have h8 : q = o := h9; rw [h8]; exact hA o (Nat.le_refl _))) (fun q h9 => (by have h8 : q = o := h9; rw [h8]; exact hA o (Nat.le_refl _))) (fun r u t H1 locs1 ht hvm hw9 hB hz1 hk1 hS => ?_)
                                try dsimp only at hB
                                rw [ht] at hB
                                obtain ⟨k1, hk1, rfl⟩ := hw9
                                replace hcs : CS D T ad o sc N sf (d + 1) F V L U H1 := ⟨dr + 1, sr, C, la, vv, by omega, by omega, hsn, hB⟩
                                refine lv_istore (lv' := [(16, .int (nI k1)), (15, .int (nI t9)), (14, .int (-1)), (13, .int (nI ((gaps (F i)).1))), (7, .int (nI (sumK (fun k => (runs (F k)).1) (i + 1)))), (11, .int (nI (lenL (runs (F i)) (runs (F i)).1))), (10, .int (nI (cntL (runs (F i)) (runs (F i)).1))), (9, .int (nI ((runs (F i)).1))), (8, .int (nI i)), (5, .long d0), (4, .int (nI st)), (3, .ref (ad 0)), (2, .ref o), (1, .int (nI ti)), (0, .ref b)]) hx hb dL_law_557 hl (by decide) rfl (fun ls hl => ?_)
                                refine lv_aload_n hx hb dL_law_559 rfl (lv_at hl 11 rfl) ?_
                                refine lv_iconst (v := nI 1) hx hb dL_law_560 (by decide) ?_
                                refine lv_iload hx hb dL_law_561 (lv_at hl 0 rfl) ?_
                                refine lv_ishl hx hb dL_law_563 ?_
                                have hp9_k1 := p2_le (show k1 < 8 by omega)
                                rw [two_k (by omega)]
                                refine lv_iconst (v := nI 1) hx hb dL_law_564 (by decide) ?_
                                refine lv_iload hx hb dL_law_565 (lv_at hl 8 rfl) ?_
                                refine lv_ishl hx hb dL_law_567 ?_
                                have hp9_i := p2_le (show i < 8 by omega)
                                rw [two_k (by omega)]
                                refine lv_ior hx hb dL_law_568 ?_
                                rw [ior_n]
                                have hor9 := or_fam (k := i) (j := k1) (by omega) (by omega)
                                refine lv_iload hx hb dL_law_569 (lv_at hl 8 rfl) ?_
                                have hcs8 := hcs
                                obtain ⟨dr, sr, C, la, vv, hdr, ho9, hsn, hw⟩ := hcs8
                                refine va_calli (va_runV (As := [.int (nI (2 ^ k1 ||| 2 ^ i)), .int (nI i)]) (rest := []) ⟨hx, hb, hml, hown, hts⟩ (conX3_cover l D T ad F V sr C i (2 ^ k1 ||| 2 ^ i) (by omega) (by omega)) (cwV 2 hts gL_law_X3_cover rfl rfl rfl (by decide +kernel) ⟨Nat.le_of_ble_eq_true rfl, Nat.le_of_ble_eq_true rfl⟩) (preV hK hw.pl.o rfl hw.pl) rfl rfl hl.1 rfl (lv_room (Nat.le_of_ble_eq_true rfl)) dL_law_571 ⟨by show _ ≤ 600086; omega, by show _ ≤ 7301442; omega⟩) hS (fun q _ h9 => (by obtain ⟨i9, h8, rfl⟩ := h9; exact hA _ (by have := hw.1 i9 h8; omega))) (fun q h9 => (by obtain ⟨i9, h8, rfl⟩ := h9; exact hA _ (by have := hw.1 i9 h8; omega))) (fun r u t H1 locs1 ht hvm hw9 hB hz1 hk1 hS => ?_)
                                try dsimp only at hB
                                rw [ht] at hB
                                rw [hw9]
                                obtain ⟨C9, hB⟩ := hB
                                replace hcs : CS D T ad o sc N sf (d + 1) F V L U H1 := ⟨dr, sr, _, la, vv, by omega, by omega, hsn, hw.setP hB (fun q h1 h2 => hk1 q h1 h2)⟩
                                obtain ⟨t8, ht8, et8⟩ := cov_more F (k := i) (by omega) hor9.1
                                rw [et8]
                                refine lv_iload hx hb dL_law_574 (lv_at hl 7 rfl) ?_
                                refine lv_icmp_gt (tgt := 674) hx hb dL_law_576 (by decide) (fun c576 => ?_) (fun c576 => ?_)
                                · skip
                                  have c576 : (runs (F i)).1 < t8 := (nc_lt (a := (runs (F i)).1) (b := t8) (by omega) (by omega)).mp c576
                                  omega
                                · skip
                                  have c576 : ¬ ((runs (F i)).1 < t8) := fun q9 => c576 ((nc_lt (a := (runs (F i)).1) (b := t8) (by omega) (by omega)).mpr q9)
                                  refine lv_aload_n hx hb dL_law_579 rfl (lv_at hl 11 rfl) ?_
                                  refine lv_iload hx hb dL_law_580 (lv_at hl 8 rfl) ?_
                                  refine lv_iload hx hb dL_law_582 (lv_at hl 0 rfl) ?_
                                  have hcs8 := hcs
                                  obtain ⟨dr, sr, C, la, vv, hdr, ho9, hsn, hw⟩ := hcs8
                                  refine vp_callSi (va_runV (As := [.int (nI i), .int (nI k1)]) (rest := []) ⟨hx, hb, hml, hown, hts⟩ (conX3_beside l D T ad F V sr C i k1 (by omega) (by omega)) (cwV 2 hts gL_law_X3_beside rfl rfl rfl (by decide +kernel) ⟨Nat.le_of_ble_eq_true rfl, Nat.le_of_ble_eq_true rfl⟩) (preV hK hw.pl.o rfl hw.pl) rfl rfl hl.1 rfl (lv_room (Nat.le_of_ble_eq_true rfl)) dL_law_584 ⟨by show _ ≤ 600086; omega, by show _ ≤ 7301442; omega⟩).run (fun r5 hr5 => ?_)
                                  rw [hr5]
                                  refine lv_if_ne (tgt := 594) hx hb dL_law_587 (by decide) (fun c587 => ?_) (fun c587 => ?_)
                                  · skip
                                    refine lv_iconst (v := nI 0) hx hb dL_law_594 (by decide) ?_
                                    refine lv_aload_n hx hb dL_law_595 rfl (lv_at hl 11 rfl) ?_
                                    refine lv_iload hx hb dL_law_596 (lv_at hl 0 rfl) ?_
                                    refine lv_iload hx hb dL_law_598 (lv_at hl 8 rfl) ?_
                                    have hcs8 := hcs
                                    obtain ⟨dr, sr, C, la, vv, hdr, ho9, hsn, hw⟩ := hcs8
                                    refine vp_callSi (va_runV (As := [.int (nI k1), .int (nI i)]) (rest := [.int (nI 0)]) ⟨hx, hb, hml, hown, hts⟩ (conX3_beside l D T ad F V sr C k1 i (by omega) (by omega)) (cwV 2 hts gL_law_X3_beside rfl rfl rfl (by decide +kernel) ⟨Nat.le_of_ble_eq_true rfl, Nat.le_of_ble_eq_true rfl⟩) (preV hK hw.pl.o rfl hw.pl) rfl rfl hl.1 rfl (lv_room (Nat.le_of_ble_eq_true rfl)) dL_law_600 ⟨by show _ ≤ 600086; omega, by show _ ≤ 7301442; omega⟩).run (fun r6 hr6 => ?_)
                                    rw [hr6]
                                    refine lv_if_ne (tgt := 610) hx hb dL_law_603 (by decide) (fun c603 => ?_) (fun c603 => ?_)
                                    · skip
                                      refine lv_iconst (v := nI 0) hx hb dL_law_610 (by decide) ?_
                                      refine lv_icmp_ne (tgt := 674) hx hb dL_law_611 (by decide) (fun c611 => ?_) (fun c611 => ?_)
                                      · skip
                                        have c611 : ¬ (0 = 0) := fun q9 => c611 ((nc_eq (a := 0) (b := 0) (by omega) (by omega)).mpr q9)
                                        omega
                                      · skip
                                        have c611 : 0 = 0 := (nc_eq (a := 0) (b := 0) (by omega) (by omega)).mp c611
                                        refine lv_aload_n hx hb dL_law_614 rfl (lv_at hl 11 rfl) ?_
                                        refine lv_iload hx hb dL_law_615 (lv_at hl 8 rfl) ?_
                                        refine lv_iload hx hb dL_law_617 (lv_at hl 0 rfl) ?_
                                        have hcs8 := hcs
                                        obtain ⟨dr, sr, C, la, vv, hdr, ho9, hsn, hw⟩ := hcs8
                                        refine vp_callSi (va_runV (As := [.int (nI i), .int (nI k1)]) (rest := []) ⟨hx, hb, hml, hown, hts⟩ (conX3_beside l D T ad F V sr C i k1 (by omega) (by omega)) (cwV 2 hts gL_law_X3_beside rfl rfl rfl (by decide +kernel) ⟨Nat.le_of_ble_eq_true rfl, Nat.le_of_ble_eq_true rfl⟩) (preV hK hw.pl.o rfl hw.pl) rfl rfl hl.1 rfl (lv_room (Nat.le_of_ble_eq_true rfl)) dL_law_619 ⟨by show _ ≤ 600086; omega, by show _ ≤ 7301442; omega⟩).run (fun r7 hr7 => ?_)
                                        rw [hr7]
                                        refine lv_iconst (v := nI 1) hx hb dL_law_622 (by decide) ?_
                                        refine lv_icmp_ne (tgt := 630) hx hb dL_law_623 (by decide) (fun c623 => ?_) (fun c623 => ?_)
                                        · skip
                                          refine lv_iconst (v := nI 0) hx hb dL_law_630 (by decide) ?_
                                          refine lv_aload_n hx hb dL_law_631 rfl (lv_at hl 11 rfl) ?_
                                          refine lv_iload hx hb dL_law_632 (lv_at hl 0 rfl) ?_
                                          refine lv_iload hx hb dL_law_634 (lv_at hl 8 rfl) ?_
                                          have hcs8 := hcs
                                          obtain ⟨dr, sr, C, la, vv, hdr, ho9, hsn, hw⟩ := hcs8
                                          refine vp_callSi (va_runV (As := [.int (nI k1), .int (nI i)]) (rest := [.int (nI 0)]) ⟨hx, hb, hml, hown, hts⟩ (conX3_beside l D T ad F V sr C k1 i (by omega) (by omega)) (cwV 2 hts gL_law_X3_beside rfl rfl rfl (by decide +kernel) ⟨Nat.le_of_ble_eq_true rfl, Nat.le_of_ble_eq_true rfl⟩) (preV hK hw.pl.o rfl hw.pl) rfl rfl hl.1 rfl (lv_room (Nat.le_of_ble_eq_true rfl)) dL_law_636 ⟨by show _ ≤ 600086; omega, by show _ ≤ 7301442; omega⟩).run (fun r8 hr8 => ?_)
                                          rw [hr8]
                                          refine lv_iconst (v := nI 2) hx hb dL_law_639 (by decide) ?_
                                          refine lv_icmp_ne (tgt := 647) hx hb dL_law_640 (by decide) (fun c640 => ?_) (fun c640 => ?_)
                                          · skip
                                            refine lv_iconst (v := nI 0) hx hb dL_law_647 (by decide) ?_
                                            refine lv_icmp_ne (tgt := 674) hx hb dL_law_648 (by decide) (fun c648 => ?_) (fun c648 => ?_)
                                            · skip
                                              have c648 : ¬ (0 = 0) := fun q9 => c648 ((nc_eq (a := 0) (b := 0) (by omega) (by omega)).mpr q9)
                                              omega
                                            · skip
                                              have c648 : 0 = 0 := (nc_eq (a := 0) (b := 0) (by omega) (by omega)).mp c648
                                              refine lv_aload_n hx hb dL_law_651 rfl (lv_at hl 11 rfl) ?_
                                              refine lv_iload hx hb dL_law_652 (lv_at hl 8 rfl) ?_
                                              refine lv_iload hx hb dL_law_654 (lv_at hl 0 rfl) ?_
                                              have hcs8 := hcs
                                              obtain ⟨dr, sr, C, la, vv, hdr, ho9, hsn, hw⟩ := hcs8
                                              refine vp_callSi (va_runV (As := [.int (nI i), .int (nI k1)]) (rest := []) ⟨hx, hb, hml, hown, hts⟩ (conX3_clear l D T ad F V sr C i k1 (by omega) (by omega)) (cwV 2 hts gL_law_X3_clear rfl rfl rfl (by decide +kernel) ⟨Nat.le_of_ble_eq_true rfl, Nat.le_of_ble_eq_true rfl⟩) (preV hK hw.pl.o rfl hw.pl) rfl rfl hl.1 rfl (lv_room (Nat.le_of_ble_eq_true rfl)) dL_law_656 ⟨by show _ ≤ 600086; omega, by show _ ≤ 7301442; omega⟩).run (fun r9 hr9 => ?_)
                                              refine lv_if_ne (tgt := 676) hx hb dL_law_659 (by decide) (fun c659 => ?_) (fun c659 => ?_)
                                              · skip
                                                exact kk676 H1 locs1 ls hS (lv_sub hl [8, 4, 9, 10, 11, 12, 13, 14] rfl) hcs
                                              · skip
                                                refine lv_aload_n hx hb dL_law_662 rfl (lv_at hl 11 rfl) ?_
                                                refine lv_iload hx hb dL_law_663 (lv_at hl 8 rfl) ?_
                                                refine lv_iconst (v := nI 0) hx hb dL_law_665 (by decide) ?_
                                                refine lv_iload hx hb dL_law_666 (lv_at hl 0 rfl) ?_
                                                have hcs8 := hcs
                                                obtain ⟨dr, sr, C, la, vv, hdr, ho9, hsn, hw⟩ := hcs8
                                                refine vp_callSi (va_runV (As := [.int (nI i), .int (nI 0), .int (nI k1)]) (rest := []) ⟨hx, hb, hml, hown, hts⟩ (conX3_meetWith l D T ad F V sr C i k1 (nI 0) (by omega) (by omega) (by decide) (by decide)) (cwV 3 hts gL_law_X3_meetWith rfl rfl rfl (by decide +kernel) ⟨Nat.le_of_ble_eq_true rfl, Nat.le_of_ble_eq_true rfl⟩) (preV hK hw.pl.o rfl hw.pl) rfl rfl hl.1 rfl (lv_room (Nat.le_of_ble_eq_true rfl)) dL_law_668 ⟨by show _ ≤ 600086; omega, by show _ ≤ 7301442; omega⟩).run (fun r10 hr10 => ?_)
                                                rw [hr10]
                                                rw [clr_0 hr9 c659]
                                                refine lv_if_eq (tgt := 676) hx hb dL_law_671 (by decide) (fun c671 => ?_) (fun c671 => ?_)
                                                · skip
                                                  have c671 : 0 = 0 := (nc_eq (a := 0) (b := 0) (by omega) (by omega)).mp c671
                                                  exact kk676 H1 locs1 ls hS (lv_sub hl [8, 4, 9, 10, 11, 12, 13, 14] rfl) hcs
                                                · skip
                                                  have c671 : ¬ (0 = 0) := fun q9 => c671 ((nc_eq (a := 0) (b := 0) (by omega) (by omega)).mpr q9)
                                                  omega
                                          · skip
                                            exact absurd ((bes_sym1 _ _).mpr c640) c623
                                        · skip
                                          refine lv_iconst (v := nI 1) hx hb dL_law_626 (by decide) ?_
                                          refine lv_goto (tgt := 631) hx hb dL_law_627 (by decide) ?_
                                          refine lv_aload_n hx hb dL_law_631 rfl (lv_at hl 11 rfl) ?_
                                          refine lv_iload hx hb dL_law_632 (lv_at hl 0 rfl) ?_
                                          refine lv_iload hx hb dL_law_634 (lv_at hl 8 rfl) ?_
                                          have hcs8 := hcs
                                          obtain ⟨dr, sr, C, la, vv, hdr, ho9, hsn, hw⟩ := hcs8
                                          refine vp_callSi (va_runV (As := [.int (nI k1), .int (nI i)]) (rest := [.int (nI 1)]) ⟨hx, hb, hml, hown, hts⟩ (conX3_beside l D T ad F V sr C k1 i (by omega) (by omega)) (cwV 2 hts gL_law_X3_beside rfl rfl rfl (by decide +kernel) ⟨Nat.le_of_ble_eq_true rfl, Nat.le_of_ble_eq_true rfl⟩) (preV hK hw.pl.o rfl hw.pl) rfl rfl hl.1 rfl (lv_room (Nat.le_of_ble_eq_true rfl)) dL_law_636 ⟨by show _ ≤ 600086; omega, by show _ ≤ 7301442; omega⟩).run (fun r11 hr11 => ?_)
                                          rw [hr11]
                                          refine lv_iconst (v := nI 2) hx hb dL_law_639 (by decide) ?_
                                          refine lv_icmp_ne (tgt := 647) hx hb dL_law_640 (by decide) (fun c640 => ?_) (fun c640 => ?_)
                                          · skip
                                            exact absurd ((bes_sym1 _ _).mp c623) c640
                                          · skip
                                            refine lv_iconst (v := nI 1) hx hb dL_law_643 (by decide) ?_
                                            refine lv_goto (tgt := 648) hx hb dL_law_644 (by decide) ?_
                                            refine lv_icmp_ne (tgt := 674) hx hb dL_law_648 (by decide) (fun c648 => ?_) (fun c648 => ?_)
                                            · skip
                                              have c648 : ¬ (1 = 1) := fun q9 => c648 ((nc_eq (a := 1) (b := 1) (by omega) (by omega)).mpr q9)
                                              omega
                                            · skip
                                              have c648 : 1 = 1 := (nc_eq (a := 1) (b := 1) (by omega) (by omega)).mp c648
                                              refine lv_aload_n hx hb dL_law_651 rfl (lv_at hl 11 rfl) ?_
                                              refine lv_iload hx hb dL_law_652 (lv_at hl 8 rfl) ?_
                                              refine lv_iload hx hb dL_law_654 (lv_at hl 0 rfl) ?_
                                              have hcs8 := hcs
                                              obtain ⟨dr, sr, C, la, vv, hdr, ho9, hsn, hw⟩ := hcs8
                                              refine vp_callSi (va_runV (As := [.int (nI i), .int (nI k1)]) (rest := []) ⟨hx, hb, hml, hown, hts⟩ (conX3_clear l D T ad F V sr C i k1 (by omega) (by omega)) (cwV 2 hts gL_law_X3_clear rfl rfl rfl (by decide +kernel) ⟨Nat.le_of_ble_eq_true rfl, Nat.le_of_ble_eq_true rfl⟩) (preV hK hw.pl.o rfl hw.pl) rfl rfl hl.1 rfl (lv_room (Nat.le_of_ble_eq_true rfl)) dL_law_656 ⟨by show _ ≤ 600086; omega, by show _ ≤ 7301442; omega⟩).run (fun r12 hr12 => ?_)
                                              refine lv_if_ne (tgt := 676) hx hb dL_law_659 (by decide) (fun c659 => ?_) (fun c659 => ?_)
                                              · skip
                                                exact kk676 H1 locs1 ls hS (lv_sub hl [8, 4, 9, 10, 11, 12, 13, 14] rfl) hcs
                                              · skip
                                                refine lv_aload_n hx hb dL_law_662 rfl (lv_at hl 11 rfl) ?_
                                                refine lv_iload hx hb dL_law_663 (lv_at hl 8 rfl) ?_
                                                refine lv_iconst (v := nI 0) hx hb dL_law_665 (by decide) ?_
                                                refine lv_iload hx hb dL_law_666 (lv_at hl 0 rfl) ?_
                                                have hcs8 := hcs
                                                obtain ⟨dr, sr, C, la, vv, hdr, ho9, hsn, hw⟩ := hcs8
                                                refine vp_callSi (va_runV (As := [.int (nI i), .int (nI 0), .int (nI k1)]) (rest := []) ⟨hx, hb, hml, hown, hts⟩ (conX3_meetWith l D T ad F V sr C i k1 (nI 0) (by omega) (by omega) (by decide) (by decide)) (cwV 3 hts gL_law_X3_meetWith rfl rfl rfl (by decide +kernel) ⟨Nat.le_of_ble_eq_true rfl, Nat.le_of_ble_eq_true rfl⟩) (preV hK hw.pl.o rfl hw.pl) rfl rfl hl.1 rfl (lv_room (Nat.le_of_ble_eq_true rfl)) dL_law_668 ⟨by show _ ≤ 600086; omega, by show _ ≤ 7301442; omega⟩).run (fun r13 hr13 => ?_)
                                                rw [hr13]
                                                rw [clr_0 hr12 c659]
                                                refine lv_if_eq (tgt := 676) hx hb dL_law_671 (by decide) (fun c671 => ?_) (fun c671 => ?_)
                                                · skip
                                                  have c671 : 0 = 0 := (nc_eq (a := 0) (b := 0) (by omega) (by omega)).mp c671
                                                  exact kk676 H1 locs1 ls hS (lv_sub hl [8, 4, 9, 10, 11, 12, 13, 14] rfl) hcs
                                                · skip
                                                  have c671 : ¬ (0 = 0) := fun q9 => c671 ((nc_eq (a := 0) (b := 0) (by omega) (by omega)).mpr q9)
                                                  omega
                                    · skip
                                      exact absurd ((bes_sym0 _ _).mpr c603) c587
                                  · skip
                                    refine lv_iconst (v := nI 1) hx hb dL_law_590 (by decide) ?_
                                    refine lv_goto (tgt := 595) hx hb dL_law_591 (by decide) ?_
                                    refine lv_aload_n hx hb dL_law_595 rfl (lv_at hl 11 rfl) ?_
                                    refine lv_iload hx hb dL_law_596 (lv_at hl 0 rfl) ?_
                                    refine lv_iload hx hb dL_law_598 (lv_at hl 8 rfl) ?_
                                    have hcs8 := hcs
                                    obtain ⟨dr, sr, C, la, vv, hdr, ho9, hsn, hw⟩ := hcs8
                                    refine vp_callSi (va_runV (As := [.int (nI k1), .int (nI i)]) (rest := [.int (nI 1)]) ⟨hx, hb, hml, hown, hts⟩ (conX3_beside l D T ad F V sr C k1 i (by omega) (by omega)) (cwV 2 hts gL_law_X3_beside rfl rfl rfl (by decide +kernel) ⟨Nat.le_of_ble_eq_true rfl, Nat.le_of_ble_eq_true rfl⟩) (preV hK hw.pl.o rfl hw.pl) rfl rfl hl.1 rfl (lv_room (Nat.le_of_ble_eq_true rfl)) dL_law_600 ⟨by show _ ≤ 600086; omega, by show _ ≤ 7301442; omega⟩).run (fun r14 hr14 => ?_)
                                    rw [hr14]
                                    refine lv_if_ne (tgt := 610) hx hb dL_law_603 (by decide) (fun c603 => ?_) (fun c603 => ?_)
                                    · skip
                                      exact absurd ((bes_sym0 _ _).mp c587) c603
                                    · skip
                                      refine lv_iconst (v := nI 1) hx hb dL_law_606 (by decide) ?_
                                      refine lv_goto (tgt := 611) hx hb dL_law_607 (by decide) ?_
                                      refine lv_icmp_ne (tgt := 674) hx hb dL_law_611 (by decide) (fun c611 => ?_) (fun c611 => ?_)
                                      · skip
                                        have c611 : ¬ (1 = 1) := fun q9 => c611 ((nc_eq (a := 1) (b := 1) (by omega) (by omega)).mpr q9)
                                        omega
                                      · skip
                                        have c611 : 1 = 1 := (nc_eq (a := 1) (b := 1) (by omega) (by omega)).mp c611
                                        refine lv_aload_n hx hb dL_law_614 rfl (lv_at hl 11 rfl) ?_
                                        refine lv_iload hx hb dL_law_615 (lv_at hl 8 rfl) ?_
                                        refine lv_iload hx hb dL_law_617 (lv_at hl 0 rfl) ?_
                                        have hcs8 := hcs
                                        obtain ⟨dr, sr, C, la, vv, hdr, ho9, hsn, hw⟩ := hcs8
                                        refine vp_callSi (va_runV (As := [.int (nI i), .int (nI k1)]) (rest := []) ⟨hx, hb, hml, hown, hts⟩ (conX3_beside l D T ad F V sr C i k1 (by omega) (by omega)) (cwV 2 hts gL_law_X3_beside rfl rfl rfl (by decide +kernel) ⟨Nat.le_of_ble_eq_true rfl, Nat.le_of_ble_eq_true rfl⟩) (preV hK hw.pl.o rfl hw.pl) rfl rfl hl.1 rfl (lv_room (Nat.le_of_ble_eq_true rfl)) dL_law_619 ⟨by show _ ≤ 600086; omega, by show _ ≤ 7301442; omega⟩).run (fun r15 hr15 => ?_)
                                        rw [hr15]
                                        refine lv_iconst (v := nI 1) hx hb dL_law_622 (by decide) ?_
                                        refine lv_icmp_ne (tgt := 630) hx hb dL_law_623 (by decide) (fun c623 => ?_) (fun c623 => ?_)
                                        · skip
                                          refine lv_iconst (v := nI 0) hx hb dL_law_630 (by decide) ?_
                                          refine lv_aload_n hx hb dL_law_631 rfl (lv_at hl 11 rfl) ?_
                                          refine lv_iload hx hb dL_law_632 (lv_at hl 0 rfl) ?_
                                          refine lv_iload hx hb dL_law_634 (lv_at hl 8 rfl) ?_
                                          have hcs8 := hcs
                                          obtain ⟨dr, sr, C, la, vv, hdr, ho9, hsn, hw⟩ := hcs8
                                          refine vp_callSi (va_runV (As := [.int (nI k1), .int (nI i)]) (rest := [.int (nI 0)]) ⟨hx, hb, hml, hown, hts⟩ (conX3_beside l D T ad F V sr C k1 i (by omega) (by omega)) (cwV 2 hts gL_law_X3_beside rfl rfl rfl (by decide +kernel) ⟨Nat.le_of_ble_eq_true rfl, Nat.le_of_ble_eq_true rfl⟩) (preV hK hw.pl.o rfl hw.pl) rfl rfl hl.1 rfl (lv_room (Nat.le_of_ble_eq_true rfl)) dL_law_636 ⟨by show _ ≤ 600086; omega, by show _ ≤ 7301442; omega⟩).run (fun r16 hr16 => ?_)
                                          rw [hr16]
                                          refine lv_iconst (v := nI 2) hx hb dL_law_639 (by decide) ?_
                                          refine lv_icmp_ne (tgt := 647) hx hb dL_law_640 (by decide) (fun c640 => ?_) (fun c640 => ?_)
                                          · skip
                                            refine lv_iconst (v := nI 0) hx hb dL_law_647 (by decide) ?_
                                            refine lv_icmp_ne (tgt := 674) hx hb dL_law_648 (by decide) (fun c648 => ?_) (fun c648 => ?_)
                                            · skip
                                              have c648 : ¬ (0 = 0) := fun q9 => c648 ((nc_eq (a := 0) (b := 0) (by omega) (by omega)).mpr q9)
                                              omega
                                            · skip
                                              have c648 : 0 = 0 := (nc_eq (a := 0) (b := 0) (by omega) (by omega)).mp c648
                                              refine lv_aload_n hx hb dL_law_651 rfl (lv_at hl 11 rfl) ?_
                                              refine lv_iload hx hb dL_law_652 (lv_at hl 8 rfl) ?_
                                              refine lv_iload hx hb dL_law_654 (lv_at hl 0 rfl) ?_
                                              have hcs8 := hcs
                                              obtain ⟨dr, sr, C, la, vv, hdr, ho9, hsn, hw⟩ := hcs8
                                              refine vp_callSi (va_runV (As := [.int (nI i), .int (nI k1)]) (rest := []) ⟨hx, hb, hml, hown, hts⟩ (conX3_clear l D T ad F V sr C i k1 (by omega) (by omega)) (cwV 2 hts gL_law_X3_clear rfl rfl rfl (by decide +kernel) ⟨Nat.le_of_ble_eq_true rfl, Nat.le_of_ble_eq_true rfl⟩) (preV hK hw.pl.o rfl hw.pl) rfl rfl hl.1 rfl (lv_room (Nat.le_of_ble_eq_true rfl)) dL_law_656 ⟨by show _ ≤ 600086; omega, by show _ ≤ 7301442; omega⟩).run (fun r17 hr17 => ?_)
                                              refine lv_if_ne (tgt := 676) hx hb dL_law_659 (by decide) (fun c659 => ?_) (fun c659 => ?_)
                                              · skip
                                                exact kk676 H1 locs1 ls hS (lv_sub hl [8, 4, 9, 10, 11, 12, 13, 14] rfl) hcs
                                              · skip
                                                refine lv_aload_n hx hb dL_law_662 rfl (lv_at hl 11 rfl) ?_
                                                refine lv_iload hx hb dL_law_663 (lv_at hl 8 rfl) ?_
                                                refine lv_iconst (v := nI 0) hx hb dL_law_665 (by decide) ?_
                                                refine lv_iload hx hb dL_law_666 (lv_at hl 0 rfl) ?_
                                                have hcs8 := hcs
                                                obtain ⟨dr, sr, C, la, vv, hdr, ho9, hsn, hw⟩ := hcs8
                                                refine vp_callSi (va_runV (As := [.int (nI i), .int (nI 0), .int (nI k1)]) (rest := []) ⟨hx, hb, hml, hown, hts⟩ (conX3_meetWith l D T ad F V sr C i k1 (nI 0) (by omega) (by omega) (by decide) (by decide)) (cwV 3 hts gL_law_X3_meetWith rfl rfl rfl (by decide +kernel) ⟨Nat.le_of_ble_eq_true rfl, Nat.le_of_ble_eq_true rfl⟩) (preV hK hw.pl.o rfl hw.pl) rfl rfl hl.1 rfl (lv_room (Nat.le_of_ble_eq_true rfl)) dL_law_668 ⟨by show _ ≤ 600086; omega, by show _ ≤ 7301442; omega⟩).run (fun r18 hr18 => ?_)
                                                rw [hr18]
                                                rw [clr_0 hr17 c659]
                                                refine lv_if_eq (tgt := 676) hx hb dL_law_671 (by decide) (fun c671 => ?_) (fun c671 => ?_)
                                                · skip
                                                  have c671 : 0 = 0 := (nc_eq (a := 0) (b := 0) (by omega) (by omega)).mp c671
                                                  exact kk676 H1 locs1 ls hS (lv_sub hl [8, 4, 9, 10, 11, 12, 13, 14] rfl) hcs
                                                · skip
                                                  have c671 : ¬ (0 = 0) := fun q9 => c671 ((nc_eq (a := 0) (b := 0) (by omega) (by omega)).mpr q9)
                                                  omega
                                          · skip
                                            exact absurd ((bes_sym1 _ _).mpr c640) c623
                                        · skip
                                          refine lv_iconst (v := nI 1) hx hb dL_law_626 (by decide) ?_
                                          refine lv_goto (tgt := 631) hx hb dL_law_627 (by decide) ?_
                                          refine lv_aload_n hx hb dL_law_631 rfl (lv_at hl 11 rfl) ?_
                                          refine lv_iload hx hb dL_law_632 (lv_at hl 0 rfl) ?_
                                          refine lv_iload hx hb dL_law_634 (lv_at hl 8 rfl) ?_
                                          have hcs8 := hcs
                                          obtain ⟨dr, sr, C, la, vv, hdr, ho9, hsn, hw⟩ := hcs8
                                          refine vp_callSi (va_runV (As := [.int (nI k1), .int (nI i)]) (rest := [.int (nI 1)]) ⟨hx, hb, hml, hown, hts⟩ (conX3_beside l D T ad F V sr C k1 i (by omega) (by omega)) (cwV 2 hts gL_law_X3_beside rfl rfl rfl (by decide +kernel) ⟨Nat.le_of_ble_eq_true rfl, Nat.le_of_ble_eq_true rfl⟩) (preV hK hw.pl.o rfl hw.pl) rfl rfl hl.1 rfl (lv_room (Nat.le_of_ble_eq_true rfl)) dL_law_636 ⟨by show _ ≤ 600086; omega, by show _ ≤ 7301442; omega⟩).run (fun r19 hr19 => ?_)
                                          rw [hr19]
                                          refine lv_iconst (v := nI 2) hx hb dL_law_639 (by decide) ?_
                                          refine lv_icmp_ne (tgt := 647) hx hb dL_law_640 (by decide) (fun c640 => ?_) (fun c640 => ?_)
                                          · skip
                                            exact absurd ((bes_sym1 _ _).mp c623) c640
                                          · skip
                                            refine lv_iconst (v := nI 1) hx hb dL_law_643 (by decide) ?_
                                            refine lv_goto (tgt := 648) hx hb dL_law_644 (by decide) ?_
                                            refine lv_icmp_ne (tgt := 674) hx hb dL_law_648 (by decide) (fun c648 => ?_) (fun c648 => ?_)
                                            · skip
                                              have c648 : ¬ (1 = 1) := fun q9 => c648 ((nc_eq (a := 1) (b := 1) (by omega) (by omega)).mpr q9)
                                              omega
                                            · skip
                                              have c648 : 1 = 1 := (nc_eq (a := 1) (b := 1) (by omega) (by omega)).mp c648
                                              refine lv_aload_n hx hb dL_law_651 rfl (lv_at hl 11 rfl) ?_
                                              refine lv_iload hx hb dL_law_652 (lv_at hl 8 rfl) ?_
                                              refine lv_iload hx hb dL_law_654 (lv_at hl 0 rfl) ?_
                                              have hcs8 := hcs
                                              obtain ⟨dr, sr, C, la, vv, hdr, ho9, hsn, hw⟩ := hcs8
                                              refine vp_callSi (va_runV (As := [.int (nI i), .int (nI k1)]) (rest := []) ⟨hx, hb, hml, hown, hts⟩ (conX3_clear l D T ad F V sr C i k1 (by omega) (by omega)) (cwV 2 hts gL_law_X3_clear rfl rfl rfl (by decide +kernel) ⟨Nat.le_of_ble_eq_true rfl, Nat.le_of_ble_eq_true rfl⟩) (preV hK hw.pl.o rfl hw.pl) rfl rfl hl.1 rfl (lv_room (Nat.le_of_ble_eq_true rfl)) dL_law_656 ⟨by show _ ≤ 600086; omega, by show _ ≤ 7301442; omega⟩).run (fun r20 hr20 => ?_)
                                              refine lv_if_ne (tgt := 676) hx hb dL_law_659 (by decide) (fun c659 => ?_) (fun c659 => ?_)
                                              · skip
                                                exact kk676 H1 locs1 ls hS (lv_sub hl [8, 4, 9, 10, 11, 12, 13, 14] rfl) hcs
                                              · skip
                                                refine lv_aload_n hx hb dL_law_662 rfl (lv_at hl 11 rfl) ?_
                                                refine lv_iload hx hb dL_law_663 (lv_at hl 8 rfl) ?_
                                                refine lv_iconst (v := nI 0) hx hb dL_law_665 (by decide) ?_
                                                refine lv_iload hx hb dL_law_666 (lv_at hl 0 rfl) ?_
                                                have hcs8 := hcs
                                                obtain ⟨dr, sr, C, la, vv, hdr, ho9, hsn, hw⟩ := hcs8
                                                refine vp_callSi (va_runV (As := [.int (nI i), .int (nI 0), .int (nI k1)]) (rest := []) ⟨hx, hb, hml, hown, hts⟩ (conX3_meetWith l D T ad F V sr C i k1 (nI 0) (by omega) (by omega) (by decide) (by decide)) (cwV 3 hts gL_law_X3_meetWith rfl rfl rfl (by decide +kernel) ⟨Nat.le_of_ble_eq_true rfl, Nat.le_of_ble_eq_true rfl⟩) (preV hK hw.pl.o rfl hw.pl) rfl rfl hl.1 rfl (lv_room (Nat.le_of_ble_eq_true rfl)) dL_law_668 ⟨by show _ ≤ 600086; omega, by show _ ≤ 7301442; omega⟩).run (fun r21 hr21 => ?_)
                                                rw [hr21]
                                                rw [clr_0 hr20 c659]
                                                refine lv_if_eq (tgt := 676) hx hb dL_law_671 (by decide) (fun c671 => ?_) (fun c671 => ?_)
                                                · skip
                                                  have c671 : 0 = 0 := (nc_eq (a := 0) (b := 0) (by omega) (by omega)).mp c671
                                                  exact kk676 H1 locs1 ls hS (lv_sub hl [8, 4, 9, 10, 11, 12, 13, 14] rfl) hcs
                                                · skip
                                                  have c671 : ¬ (0 = 0) := fun q9 => c671 ((nc_eq (a := 0) (b := 0) (by omega) (by omega)).mpr q9)
                                                  omega
                              · skip
                                have c546 : ¬ ((runs (F i)).1 = (runs (F i)).1) := fun q9 => c546 ((nc_eq (a := (runs (F i)).1) (b := (runs (F i)).1) (by omega) (by omega)).mpr q9)
                                omega
                      · skip
                        exact absurd (by decide) c478
                    · skip
                      rw [hu9] at hl
                      refine lv_iload hx hb dL_law_476 (lv_at hl 1 rfl) ?_
                      refine lv_if_lt (tgt := 488) hx hb dL_law_478 (by decide) (fun c478 => ?_) (fun c478 => ?_)
                      · skip
                        have c478 : u9 < 0 := (nc_lt (a := u9) (b := 0) (by omega) (by omega)).mp c478
                        omega
                      · skip
                        have c478 : ¬ (u9 < 0) := fun q9 => c478 ((nc_lt (a := u9) (b := 0) (by omega) (by omega)).mpr q9)
                        refine lv_iload hx hb dL_law_481 (lv_at hl 1 rfl) ?_
                        refine lv_iload hx hb dL_law_483 (lv_at hl 0 rfl) ?_
                        refine lv_icmp_lt (tgt := 549) hx hb dL_law_485 (by decide) (fun c485 => ?_) (fun c485 => ?_)
                        · skip
                          have c485 : u9 < t9 := (nc_lt (a := u9) (b := t9) (by omega) (by omega)).mp c485
                          omega
                        · skip
                          have c485 : ¬ (u9 < t9) := fun q9 => c485 ((nc_lt (a := u9) (b := t9) (by omega) (by omega)).mpr q9)
                          refine lv_aload_n hx hb dL_law_488 rfl (lv_at hl 10 rfl) ?_
                          refine lv_sipush (v := nI 255) hx hb dL_law_489 (by decide) ?_
                          refine lv_iconst (v := nI 1) hx hb dL_law_492 (by decide) ?_
                          refine lv_iload hx hb dL_law_493 (lv_at hl 7 rfl) ?_
                          refine lv_ishl hx hb dL_law_495 ?_
                          have hp9_i := p2_le (show i < 8 by omega)
                          rw [two_k (by omega)]
                          refine lv_isub hx hb dL_law_496 ?_
                          rw [pk_sub (a := 255) (b := 2 ^ i) (by omega)]
                          refine lv_iload hx hb dL_law_497 (lv_at hl 7 rfl) ?_
                          refine lv_iload hx hb dL_law_499 (lv_at hl 7 rfl) ?_
                          have hcs8 := hcs
                          obtain ⟨dr, sr, C, la, vv, hdr, ho9, hsn, hw⟩ := hcs8
                          refine va_calli (va_runV (As := [.int (nI (255 - (2 ^ i))), .int (nI i), .int (nI i)]) (rest := []) ⟨hx, hb, hml, hown, hts⟩ (conX3_saves l D T ad F V sr C i i (255 - (2 ^ i)) (by omega) (by omega) (by omega)) (cwV 3 hts gL_law_X3_saves rfl rfl rfl (by decide +kernel) ⟨Nat.le_of_ble_eq_true rfl, Nat.le_of_ble_eq_true rfl⟩) (preV hK hw.pl.o rfl hw.pl) rfl rfl hl.1 rfl (lv_room (Nat.le_of_ble_eq_true rfl)) dL_law_501 ⟨by show _ ≤ 600086; omega, by show _ ≤ 7301442; omega⟩) hS (fun q _ h9 => (by obtain ⟨i9, h8, rfl⟩ := h9; exact hA _ (by have := hw.1 i9 h8; omega))) (fun q h9 => (by obtain ⟨i9, h8, rfl⟩ := h9; exact hA _ (by have := hw.1 i9 h8; omega))) (fun r u t H1 locs1 ht hvm hw9 hB hz1 hk1 hS => ?_)
                          try dsimp only at hB
                          rw [ht] at hB
                          rw [hw9]
                          obtain ⟨C9, hB⟩ := hB
                          replace hcs : CS D T ad o sc N sf (d) F V L U H1 := ⟨dr, sr, _, la, vv, by omega, by omega, hsn, hw.setP hB (fun q h1 h2 => hk1 q h1 h2)⟩
                          rw [sav_e F (by omega), hu9, if_neg (m1_ne (by omega)), et9, pk_sub (by omega)]
                          refine lv_iload hx hb dL_law_504 (lv_at hl 1 rfl) ?_
                          refine lv_if_ge (tgt := 515) hx hb dL_law_506 (by decide) (fun c506 => ?_) (fun c506 => ?_)
                          · skip
                            have c506 : 0 ≤ u9 := (nc_le (a := 0) (b := u9) (by omega) (by omega)).mp c506
                            refine lv_iload hx hb dL_law_515 (lv_at hl 1 rfl) ?_
                            refine lv_iload hx hb dL_law_517 (lv_at hl 0 rfl) ?_
                            refine lv_isub hx hb dL_law_519 ?_
                            rw [pk_sub (a := u9) (b := t9) (by omega)]
                            refine lv_icmp_ne (tgt := 549) hx hb dL_law_520 (by decide) (fun c520 => ?_) (fun c520 => ?_)
                            · skip
                              have c520 : ¬ (u9 - t9 = u9 - t9) := fun q9 => c520 ((nc_eq (a := u9 - t9) (b := u9 - t9) (by omega) (by omega)).mpr q9)
                              omega
                            · skip
                              have c520 : u9 - t9 = u9 - t9 := (nc_eq (a := u9 - t9) (b := u9 - t9) (by omega) (by omega)).mp c520
                              refine lv_aload_n hx hb dL_law_523 rfl (lv_at hl 10 rfl) ?_
                              refine lv_iconst (v := nI 1) hx hb dL_law_524 (by decide) ?_
                              refine lv_iload hx hb dL_law_525 (lv_at hl 7 rfl) ?_
                              refine lv_ishl hx hb dL_law_527 ?_
                              have hp9_i := p2_le (show i < 8 by omega)
                              rw [two_k (by omega)]
                              have hcs8 := hcs
                              obtain ⟨dr, sr, C, la, vv, hdr, ho9, hsn, hw⟩ := hcs8
                              refine vp_callSi (va_runV (As := [.int (nI (2 ^ i))]) (rest := []) ⟨hx, hb, hml, hown, hts⟩ (conX3_apart l D T ad F V sr C (2 ^ i) (by omega)) (cwV 1 hts gL_law_X3_apart rfl rfl rfl (by decide +kernel) ⟨Nat.le_of_ble_eq_true rfl, Nat.le_of_ble_eq_true rfl⟩) (preV hK hw.pl.o rfl hw.pl) rfl rfl hl.1 rfl (lv_room (Nat.le_of_ble_eq_true rfl)) dL_law_528 ⟨by show _ ≤ 600086; omega, by show _ ≤ 7301442; omega⟩).run (fun r22 hr22 => ?_)
                              rw [hr22]
                              rw [pin_self F (by omega)]
                              refine lv_iload hx hb dL_law_531 (lv_at hl 6 rfl) ?_
                              refine lv_icmp_ne (tgt := 549) hx hb dL_law_533 (by decide) (fun c533 => ?_) (fun c533 => ?_)
                              · skip
                                have c533 : ¬ ((runs (F i)).1 = (runs (F i)).1) := fun q9 => c533 ((nc_eq (a := (runs (F i)).1) (b := (runs (F i)).1) (by omega) (by omega)).mpr q9)
                                omega
                              · skip
                                have c533 : (runs (F i)).1 = (runs (F i)).1 := (nc_eq (a := (runs (F i)).1) (b := (runs (F i)).1) (by omega) (by omega)).mp c533
                                refine lv_aload_n hx hb dL_law_536 rfl (lv_at hl 10 rfl) ?_
                                refine lv_iconst (v := nI 1) hx hb dL_law_537 (by decide) ?_
                                refine lv_iload hx hb dL_law_538 (lv_at hl 7 rfl) ?_
                                refine lv_ishl hx hb dL_law_540 ?_
                                have hp9_i := p2_le (show i < 8 by omega)
                                rw [two_k (by omega)]
                                have hcs8 := hcs
                                obtain ⟨dr, sr, C, la, vv, hdr, ho9, hsn, hw⟩ := hcs8
                                refine vp_callSi (va_runV (As := [.int (nI (2 ^ i))]) (rest := []) ⟨hx, hb, hml, hown, hts⟩ (conX3_pins l D T ad F V sr C (2 ^ i) (by omega)) (cwV 1 hts gL_law_X3_pins rfl rfl rfl (by decide +kernel) ⟨Nat.le_of_ble_eq_true rfl, Nat.le_of_ble_eq_true rfl⟩) (preV hK hw.pl.o rfl hw.pl) rfl rfl hl.1 rfl (lv_room (Nat.le_of_ble_eq_true rfl)) dL_law_541 ⟨by show _ ≤ 600086; omega, by show _ ≤ 7301442; omega⟩).run (fun r23 hr23 => ?_)
                                rw [hr23]
                                rw [pin_self F (by omega)]
                                refine lv_iload hx hb dL_law_544 (lv_at hl 6 rfl) ?_
                                refine lv_icmp_eq (tgt := 551) hx hb dL_law_546 (by decide) (fun c546 => ?_) (fun c546 => ?_)
                                · skip
                                  have c546 : (runs (F i)).1 = (runs (F i)).1 := (nc_eq (a := (runs (F i)).1) (b := (runs (F i)).1) (by omega) (by omega)).mp c546
                                  refine lv_aload_n hx hb dL_law_551 rfl (lv_at hl 11 rfl) ?_
                                  refine lv_bipush (v := nI 8) hx hb dL_law_552 (by decide) ?_
                                  have hcs8 := hcs
                                  obtain ⟨dr, sr, C, la, vv, hdr, ho9, hsn, hw⟩ := hcs8
                                  refine va_calli (va_runV (As := [.int (nI 8)]) (rest := []) ⟨hx, hb, hml, hown, hts⟩ (conX4_draw l D T ad o sc N sf dr F V sr C L U la vv (by omega) (by omega) 8 (by omega) (by omega)) (cwV 1 hts gL_law_X4_draw rfl rfl rfl (by decide +kernel) ⟨Nat.le_of_ble_eq_true rfl, Nat.le_of_ble_eq_true rfl⟩) (preV hK hw.ob rfl hw) rfl rfl hl.1 rfl (lv_room (Nat.le_of_ble_eq_true rfl)) dL_law_554 ⟨by show _ ≤ 600086; omega, by show _ ≤ 7301442; omega⟩) hS (fun q _ h9 => (by have h8 : q = o := h9; rw [h8]; exact hA o (Nat.le_refl _))) (fun q h9 => (by have h8 : q = o := h9; rw [h8]; exact hA o (Nat.le_refl _))) (fun r u t H1 locs1 ht hvm hw9 hB hz1 hk1 hS => ?_)
                                  try dsimp only at hB
                                  rw [ht] at hB
                                  obtain ⟨k1, hk1, rfl⟩ := hw9
                                  replace hcs : CS D T ad o sc N sf (d + 1) F V L U H1 := ⟨dr + 1, sr, C, la, vv, by omega, by omega, hsn, hB⟩
                                  refine lv_istore (lv' := [(16, .int (nI k1)), (15, .int (nI t9)), (14, .int (nI u9)), (13, .int (nI ((gaps (F i)).1))), (7, .int (nI (sumK (fun k => (runs (F k)).1) (i + 1)))), (11, .int (nI (lenL (runs (F i)) (runs (F i)).1))), (10, .int (nI (cntL (runs (F i)) (runs (F i)).1))), (9, .int (nI ((runs (F i)).1))), (8, .int (nI i)), (5, .long d0), (4, .int (nI st)), (3, .ref (ad 0)), (2, .ref o), (1, .int (nI ti)), (0, .ref b)]) hx hb dL_law_557 hl (by decide) rfl (fun ls hl => ?_)
                                  refine lv_aload_n hx hb dL_law_559 rfl (lv_at hl 11 rfl) ?_
                                  refine lv_iconst (v := nI 1) hx hb dL_law_560 (by decide) ?_
                                  refine lv_iload hx hb dL_law_561 (lv_at hl 0 rfl) ?_
                                  refine lv_ishl hx hb dL_law_563 ?_
                                  have hp9_k1 := p2_le (show k1 < 8 by omega)
                                  rw [two_k (by omega)]
                                  refine lv_iconst (v := nI 1) hx hb dL_law_564 (by decide) ?_
                                  refine lv_iload hx hb dL_law_565 (lv_at hl 8 rfl) ?_
                                  refine lv_ishl hx hb dL_law_567 ?_
                                  have hp9_i := p2_le (show i < 8 by omega)
                                  rw [two_k (by omega)]
                                  refine lv_ior hx hb dL_law_568 ?_
                                  rw [ior_n]
                                  have hor9 := or_fam (k := i) (j := k1) (by omega) (by omega)
                                  refine lv_iload hx hb dL_law_569 (lv_at hl 8 rfl) ?_
                                  have hcs8 := hcs
                                  obtain ⟨dr, sr, C, la, vv, hdr, ho9, hsn, hw⟩ := hcs8
                                  refine va_calli (va_runV (As := [.int (nI (2 ^ k1 ||| 2 ^ i)), .int (nI i)]) (rest := []) ⟨hx, hb, hml, hown, hts⟩ (conX3_cover l D T ad F V sr C i (2 ^ k1 ||| 2 ^ i) (by omega) (by omega)) (cwV 2 hts gL_law_X3_cover rfl rfl rfl (by decide +kernel) ⟨Nat.le_of_ble_eq_true rfl, Nat.le_of_ble_eq_true rfl⟩) (preV hK hw.pl.o rfl hw.pl) rfl rfl hl.1 rfl (lv_room (Nat.le_of_ble_eq_true rfl)) dL_law_571 ⟨by show _ ≤ 600086; omega, by show _ ≤ 7301442; omega⟩) hS (fun q _ h9 => (by obtain ⟨i9, h8, rfl⟩ := h9; exact hA _ (by have := hw.1 i9 h8; omega))) (fun q h9 => (by obtain ⟨i9, h8, rfl⟩ := h9; exact hA _ (by have := hw.1 i9 h8; omega))) (fun r u t H1 locs1 ht hvm hw9 hB hz1 hk1 hS => ?_)
                                  try dsimp only at hB
                                  rw [ht] at hB
                                  rw [hw9]
                                  obtain ⟨C9, hB⟩ := hB
                                  replace hcs : CS D T ad o sc N sf (d + 1) F V L U H1 := ⟨dr, sr, _, la, vv, by omega, by omega, hsn, hw.setP hB (fun q h1 h2 => hk1 q h1 h2)⟩
                                  obtain ⟨t8, ht8, et8⟩ := cov_more F (k := i) (by omega) hor9.1
                                  rw [et8]
                                  refine lv_iload hx hb dL_law_574 (lv_at hl 7 rfl) ?_
                                  refine lv_icmp_gt (tgt := 674) hx hb dL_law_576 (by decide) (fun c576 => ?_) (fun c576 => ?_)
                                  · skip
                                    have c576 : (runs (F i)).1 < t8 := (nc_lt (a := (runs (F i)).1) (b := t8) (by omega) (by omega)).mp c576
                                    omega
                                  · skip
                                    have c576 : ¬ ((runs (F i)).1 < t8) := fun q9 => c576 ((nc_lt (a := (runs (F i)).1) (b := t8) (by omega) (by omega)).mpr q9)
                                    refine lv_aload_n hx hb dL_law_579 rfl (lv_at hl 11 rfl) ?_
                                    refine lv_iload hx hb dL_law_580 (lv_at hl 8 rfl) ?_
                                    refine lv_iload hx hb dL_law_582 (lv_at hl 0 rfl) ?_
                                    have hcs8 := hcs
                                    obtain ⟨dr, sr, C, la, vv, hdr, ho9, hsn, hw⟩ := hcs8
                                    refine vp_callSi (va_runV (As := [.int (nI i), .int (nI k1)]) (rest := []) ⟨hx, hb, hml, hown, hts⟩ (conX3_beside l D T ad F V sr C i k1 (by omega) (by omega)) (cwV 2 hts gL_law_X3_beside rfl rfl rfl (by decide +kernel) ⟨Nat.le_of_ble_eq_true rfl, Nat.le_of_ble_eq_true rfl⟩) (preV hK hw.pl.o rfl hw.pl) rfl rfl hl.1 rfl (lv_room (Nat.le_of_ble_eq_true rfl)) dL_law_584 ⟨by show _ ≤ 600086; omega, by show _ ≤ 7301442; omega⟩).run (fun r24 hr24 => ?_)
                                    rw [hr24]
                                    refine lv_if_ne (tgt := 594) hx hb dL_law_587 (by decide) (fun c587 => ?_) (fun c587 => ?_)
                                    · skip
                                      refine lv_iconst (v := nI 0) hx hb dL_law_594 (by decide) ?_
                                      refine lv_aload_n hx hb dL_law_595 rfl (lv_at hl 11 rfl) ?_
                                      refine lv_iload hx hb dL_law_596 (lv_at hl 0 rfl) ?_
                                      refine lv_iload hx hb dL_law_598 (lv_at hl 8 rfl) ?_
                                      have hcs8 := hcs
                                      obtain ⟨dr, sr, C, la, vv, hdr, ho9, hsn, hw⟩ := hcs8
                                      refine vp_callSi (va_runV (As := [.int (nI k1), .int (nI i)]) (rest := [.int (nI 0)]) ⟨hx, hb, hml, hown, hts⟩ (conX3_beside l D T ad F V sr C k1 i (by omega) (by omega)) (cwV 2 hts gL_law_X3_beside rfl rfl rfl (by decide +kernel) ⟨Nat.le_of_ble_eq_true rfl, Nat.le_of_ble_eq_true rfl⟩) (preV hK hw.pl.o rfl hw.pl) rfl rfl hl.1 rfl (lv_room (Nat.le_of_ble_eq_true rfl)) dL_law_600 ⟨by show _ ≤ 600086; omega, by show _ ≤ 7301442; omega⟩).run (fun r25 hr25 => ?_)
                                      rw [hr25]
                                      refine lv_if_ne (tgt := 610) hx hb dL_law_603 (by decide) (fun c603 => ?_) (fun c603 => ?_)
                                      · skip
                                        refine lv_iconst (v := nI 0) hx hb dL_law_610 (by decide) ?_
                                        refine lv_icmp_ne (tgt := 674) hx hb dL_law_611 (by decide) (fun c611 => ?_) (fun c611 => ?_)
                                        · skip
                                          have c611 : ¬ (0 = 0) := fun q9 => c611 ((nc_eq (a := 0) (b := 0) (by omega) (by omega)).mpr q9)
                                          omega
                                        · skip
                                          have c611 : 0 = 0 := (nc_eq (a := 0) (b := 0) (by omega) (by omega)).mp c611
                                          refine lv_aload_n hx hb dL_law_614 rfl (lv_at hl 11 rfl) ?_
                                          refine lv_iload hx hb dL_law_615 (lv_at hl 8 rfl) ?_
                                          refine lv_iload hx hb dL_law_617 (lv_at hl 0 rfl) ?_
                                          have hcs8 := hcs
                                          obtain ⟨dr, sr, C, la, vv, hdr, ho9, hsn, hw⟩ := hcs8
                                          refine vp_callSi (va_runV (As := [.int (nI i), .int (nI k1)]) (rest := []) ⟨hx, hb, hml, hown, hts⟩ (conX3_beside l D T ad F V sr C i k1 (by omega) (by omega)) (cwV 2 hts gL_law_X3_beside rfl rfl rfl (by decide +kernel) ⟨Nat.le_of_ble_eq_true rfl, Nat.le_of_ble_eq_true rfl⟩) (preV hK hw.pl.o rfl hw.pl) rfl rfl hl.1 rfl (lv_room (Nat.le_of_ble_eq_true rfl)) dL_law_619 ⟨by show _ ≤ 600086; omega, by show _ ≤ 7301442; omega⟩).run (fun r26 hr26 => ?_)
                                          rw [hr26]
                                          refine lv_iconst (v := nI 1) hx hb dL_law_622 (by decide) ?_
                                          refine lv_icmp_ne (tgt := 630) hx hb dL_law_623 (by decide) (fun c623 => ?_) (fun c623 => ?_)
                                          · skip
                                            refine lv_iconst (v := nI 0) hx hb dL_law_630 (by decide) ?_
                                            refine lv_aload_n hx hb dL_law_631 rfl (lv_at hl 11 rfl) ?_
                                            refine lv_iload hx hb dL_law_632 (lv_at hl 0 rfl) ?_
                                            refine lv_iload hx hb dL_law_634 (lv_at hl 8 rfl) ?_
                                            have hcs8 := hcs
                                            obtain ⟨dr, sr, C, la, vv, hdr, ho9, hsn, hw⟩ := hcs8
                                            refine vp_callSi (va_runV (As := [.int (nI k1), .int (nI i)]) (rest := [.int (nI 0)]) ⟨hx, hb, hml, hown, hts⟩ (conX3_beside l D T ad F V sr C k1 i (by omega) (by omega)) (cwV 2 hts gL_law_X3_beside rfl rfl rfl (by decide +kernel) ⟨Nat.le_of_ble_eq_true rfl, Nat.le_of_ble_eq_true rfl⟩) (preV hK hw.pl.o rfl hw.pl) rfl rfl hl.1 rfl (lv_room (Nat.le_of_ble_eq_true rfl)) dL_law_636 ⟨by show _ ≤ 600086; omega, by show _ ≤ 7301442; omega⟩).run (fun r27 hr27 => ?_)
                                            rw [hr27]
                                            refine lv_iconst (v := nI 2) hx hb dL_law_639 (by decide) ?_
                                            refine lv_icmp_ne (tgt := 647) hx hb dL_law_640 (by decide) (fun c640 => ?_) (fun c640 => ?_)
                                            · skip
                                              refine lv_iconst (v := nI 0) hx hb dL_law_647 (by decide) ?_
                                              refine lv_icmp_ne (tgt := 674) hx hb dL_law_648 (by decide) (fun c648 => ?_) (fun c648 => ?_)
                                              · skip
                                                have c648 : ¬ (0 = 0) := fun q9 => c648 ((nc_eq (a := 0) (b := 0) (by omega) (by omega)).mpr q9)
                                                omega
                                              · skip
                                                have c648 : 0 = 0 := (nc_eq (a := 0) (b := 0) (by omega) (by omega)).mp c648
                                                refine lv_aload_n hx hb dL_law_651 rfl (lv_at hl 11 rfl) ?_
                                                refine lv_iload hx hb dL_law_652 (lv_at hl 8 rfl) ?_
                                                refine lv_iload hx hb dL_law_654 (lv_at hl 0 rfl) ?_
                                                have hcs8 := hcs
                                                obtain ⟨dr, sr, C, la, vv, hdr, ho9, hsn, hw⟩ := hcs8
                                                refine vp_callSi (va_runV (As := [.int (nI i), .int (nI k1)]) (rest := []) ⟨hx, hb, hml, hown, hts⟩ (conX3_clear l D T ad F V sr C i k1 (by omega) (by omega)) (cwV 2 hts gL_law_X3_clear rfl rfl rfl (by decide +kernel) ⟨Nat.le_of_ble_eq_true rfl, Nat.le_of_ble_eq_true rfl⟩) (preV hK hw.pl.o rfl hw.pl) rfl rfl hl.1 rfl (lv_room (Nat.le_of_ble_eq_true rfl)) dL_law_656 ⟨by show _ ≤ 600086; omega, by show _ ≤ 7301442; omega⟩).run (fun r28 hr28 => ?_)
                                                refine lv_if_ne (tgt := 676) hx hb dL_law_659 (by decide) (fun c659 => ?_) (fun c659 => ?_)
                                                · skip
                                                  exact kk676 H1 locs1 ls hS (lv_sub hl [8, 4, 9, 10, 11, 12, 13, 14] rfl) hcs
                                                · skip
                                                  refine lv_aload_n hx hb dL_law_662 rfl (lv_at hl 11 rfl) ?_
                                                  refine lv_iload hx hb dL_law_663 (lv_at hl 8 rfl) ?_
                                                  refine lv_iconst (v := nI 0) hx hb dL_law_665 (by decide) ?_
                                                  refine lv_iload hx hb dL_law_666 (lv_at hl 0 rfl) ?_
                                                  have hcs8 := hcs
                                                  obtain ⟨dr, sr, C, la, vv, hdr, ho9, hsn, hw⟩ := hcs8
                                                  refine vp_callSi (va_runV (As := [.int (nI i), .int (nI 0), .int (nI k1)]) (rest := []) ⟨hx, hb, hml, hown, hts⟩ (conX3_meetWith l D T ad F V sr C i k1 (nI 0) (by omega) (by omega) (by decide) (by decide)) (cwV 3 hts gL_law_X3_meetWith rfl rfl rfl (by decide +kernel) ⟨Nat.le_of_ble_eq_true rfl, Nat.le_of_ble_eq_true rfl⟩) (preV hK hw.pl.o rfl hw.pl) rfl rfl hl.1 rfl (lv_room (Nat.le_of_ble_eq_true rfl)) dL_law_668 ⟨by show _ ≤ 600086; omega, by show _ ≤ 7301442; omega⟩).run (fun r29 hr29 => ?_)
                                                  rw [hr29]
                                                  rw [clr_0 hr28 c659]
                                                  refine lv_if_eq (tgt := 676) hx hb dL_law_671 (by decide) (fun c671 => ?_) (fun c671 => ?_)
                                                  · skip
                                                    have c671 : 0 = 0 := (nc_eq (a := 0) (b := 0) (by omega) (by omega)).mp c671
                                                    exact kk676 H1 locs1 ls hS (lv_sub hl [8, 4, 9, 10, 11, 12, 13, 14] rfl) hcs
                                                  · skip
                                                    have c671 : ¬ (0 = 0) := fun q9 => c671 ((nc_eq (a := 0) (b := 0) (by omega) (by omega)).mpr q9)
                                                    omega
                                            · skip
                                              exact absurd ((bes_sym1 _ _).mpr c640) c623
                                          · skip
                                            refine lv_iconst (v := nI 1) hx hb dL_law_626 (by decide) ?_
                                            refine lv_goto (tgt := 631) hx hb dL_law_627 (by decide) ?_
                                            refine lv_aload_n hx hb dL_law_631 rfl (lv_at hl 11 rfl) ?_
                                            refine lv_iload hx hb dL_law_632 (lv_at hl 0 rfl) ?_
                                            refine lv_iload hx hb dL_law_634 (lv_at hl 8 rfl) ?_
                                            have hcs8 := hcs
                                            obtain ⟨dr, sr, C, la, vv, hdr, ho9, hsn, hw⟩ := hcs8
                                            refine vp_callSi (va_runV (As := [.int (nI k1), .int (nI i)]) (rest := [.int (nI 1)]) ⟨hx, hb, hml, hown, hts⟩ (conX3_beside l D T ad F V sr C k1 i (by omega) (by omega)) (cwV 2 hts gL_law_X3_beside rfl rfl rfl (by decide +kernel) ⟨Nat.le_of_ble_eq_true rfl, Nat.le_of_ble_eq_true rfl⟩) (preV hK hw.pl.o rfl hw.pl) rfl rfl hl.1 rfl (lv_room (Nat.le_of_ble_eq_true rfl)) dL_law_636 ⟨by show _ ≤ 600086; omega, by show _ ≤ 7301442; omega⟩).run (fun r30 hr30 => ?_)
                                            rw [hr30]
                                            refine lv_iconst (v := nI 2) hx hb dL_law_639 (by decide) ?_
                                            refine lv_icmp_ne (tgt := 647) hx hb dL_law_640 (by decide) (fun c640 => ?_) (fun c640 => ?_)
                                            · skip
                                              exact absurd ((bes_sym1 _ _).mp c623) c640
                                            · skip
                                              refine lv_iconst (v := nI 1) hx hb dL_law_643 (by decide) ?_
                                              refine lv_goto (tgt := 648) hx hb dL_law_644 (by decide) ?_
                                              refine lv_icmp_ne (tgt := 674) hx hb dL_law_648 (by decide) (fun c648 => ?_) (fun c648 => ?_)
                                              · skip
                                                have c648 : ¬ (1 = 1) := fun q9 => c648 ((nc_eq (a := 1) (b := 1) (by omega) (by omega)).mpr q9)
                                                omega
                                              · skip
                                                have c648 : 1 = 1 := (nc_eq (a := 1) (b := 1) (by omega) (by omega)).mp c648
                                                refine lv_aload_n hx hb dL_law_651 rfl (lv_at hl 11 rfl) ?_
                                                refine lv_iload hx hb dL_law_652 (lv_at hl 8 rfl) ?_
                                                refine lv_iload hx hb dL_law_654 (lv_at hl 0 rfl) ?_
                                                have hcs8 := hcs
                                                obtain ⟨dr, sr, C, la, vv, hdr, ho9, hsn, hw⟩ := hcs8
                                                refine vp_callSi (va_runV (As := [.int (nI i), .int (nI k1)]) (rest := []) ⟨hx, hb, hml, hown, hts⟩ (conX3_clear l D T ad F V sr C i k1 (by omega) (by omega)) (cwV 2 hts gL_law_X3_clear rfl rfl rfl (by decide +kernel) ⟨Nat.le_of_ble_eq_true rfl, Nat.le_of_ble_eq_true rfl⟩) (preV hK hw.pl.o rfl hw.pl) rfl rfl hl.1 rfl (lv_room (Nat.le_of_ble_eq_true rfl)) dL_law_656 ⟨by show _ ≤ 600086; omega, by show _ ≤ 7301442; omega⟩).run (fun r31 hr31 => ?_)
                                                refine lv_if_ne (tgt := 676) hx hb dL_law_659 (by decide) (fun c659 => ?_) (fun c659 => ?_)
                                                · skip
                                                  exact kk676 H1 locs1 ls hS (lv_sub hl [8, 4, 9, 10, 11, 12, 13, 14] rfl) hcs
                                                · skip
                                                  refine lv_aload_n hx hb dL_law_662 rfl (lv_at hl 11 rfl) ?_
                                                  refine lv_iload hx hb dL_law_663 (lv_at hl 8 rfl) ?_
                                                  refine lv_iconst (v := nI 0) hx hb dL_law_665 (by decide) ?_
                                                  refine lv_iload hx hb dL_law_666 (lv_at hl 0 rfl) ?_
                                                  have hcs8 := hcs
                                                  obtain ⟨dr, sr, C, la, vv, hdr, ho9, hsn, hw⟩ := hcs8
                                                  refine vp_callSi (va_runV (As := [.int (nI i), .int (nI 0), .int (nI k1)]) (rest := []) ⟨hx, hb, hml, hown, hts⟩ (conX3_meetWith l D T ad F V sr C i k1 (nI 0) (by omega) (by omega) (by decide) (by decide)) (cwV 3 hts gL_law_X3_meetWith rfl rfl rfl (by decide +kernel) ⟨Nat.le_of_ble_eq_true rfl, Nat.le_of_ble_eq_true rfl⟩) (preV hK hw.pl.o rfl hw.pl) rfl rfl hl.1 rfl (lv_room (Nat.le_of_ble_eq_true rfl)) dL_law_668 ⟨by show _ ≤ 600086; omega, by show _ ≤ 7301442; omega⟩).run (fun r32 hr32 => ?_)
                                                  rw [hr32]
                                                  rw [clr_0 hr31 c659]
                                                  refine lv_if_eq (tgt := 676) hx hb dL_law_671 (by decide) (fun c671 => ?_) (fun c671 => ?_)
                                                  · skip
                                                    have c671 : 0 = 0 := (nc_eq (a := 0) (b := 0) (by omega) (by omega)).mp c671
                                                    exact kk676 H1 locs1 ls hS (lv_sub hl [8, 4, 9, 10, 11, 12, 13, 14] rfl) hcs
                                                  · skip
                                                    have c671 : ¬ (0 = 0) := fun q9 => c671 ((nc_eq (a := 0) (b := 0) (by omega) (by omega)).mpr q9)
                                                    omega
                                      · skip
                                        exact absurd ((bes_sym0 _ _).mpr c603) c587
                                    · skip
                                      refine lv_iconst (v := nI 1) hx hb dL_law_590 (by decide) ?_
                                      refine lv_goto (tgt := 595) hx hb dL_law_591 (by decide) ?_
                                      refine lv_aload_n hx hb dL_law_595 rfl (lv_at hl 11 rfl) ?_
                                      refine lv_iload hx hb dL_law_596 (lv_at hl 0 rfl) ?_
                                      refine lv_iload hx hb dL_law_598 (lv_at hl 8 rfl) ?_
                                      have hcs8 := hcs
                                      obtain ⟨dr, sr, C, la, vv, hdr, ho9, hsn, hw⟩ := hcs8
                                      refine vp_callSi (va_runV (As := [.int (nI k1), .int (nI i)]) (rest := [.int (nI 1)]) ⟨hx, hb, hml, hown, hts⟩ (conX3_beside l D T ad F V sr C k1 i (by omega) (by omega)) (cwV 2 hts gL_law_X3_beside rfl rfl rfl (by decide +kernel) ⟨Nat.le_of_ble_eq_true rfl, Nat.le_of_ble_eq_true rfl⟩) (preV hK hw.pl.o rfl hw.pl) rfl rfl hl.1 rfl (lv_room (Nat.le_of_ble_eq_true rfl)) dL_law_600 ⟨by show _ ≤ 600086; omega, by show _ ≤ 7301442; omega⟩).run (fun r33 hr33 => ?_)
                                      rw [hr33]
                                      refine lv_if_ne (tgt := 610) hx hb dL_law_603 (by decide) (fun c603 => ?_) (fun c603 => ?_)
                                      · skip
                                        exact absurd ((bes_sym0 _ _).mp c587) c603
                                      · skip
                                        refine lv_iconst (v := nI 1) hx hb dL_law_606 (by decide) ?_
                                        refine lv_goto (tgt := 611) hx hb dL_law_607 (by decide) ?_
                                        refine lv_icmp_ne (tgt := 674) hx hb dL_law_611 (by decide) (fun c611 => ?_) (fun c611 => ?_)
                                        · skip
                                          have c611 : ¬ (1 = 1) := fun q9 => c611 ((nc_eq (a := 1) (b := 1) (by omega) (by omega)).mpr q9)
                                          omega
                                        · skip
                                          have c611 : 1 = 1 := (nc_eq (a := 1) (b := 1) (by omega) (by omega)).mp c611
                                          refine lv_aload_n hx hb dL_law_614 rfl (lv_at hl 11 rfl) ?_
                                          refine lv_iload hx hb dL_law_615 (lv_at hl 8 rfl) ?_
                                          refine lv_iload hx hb dL_law_617 (lv_at hl 0 rfl) ?_
                                          have hcs8 := hcs
                                          obtain ⟨dr, sr, C, la, vv, hdr, ho9, hsn, hw⟩ := hcs8
                                          refine vp_callSi (va_runV (As := [.int (nI i), .int (nI k1)]) (rest := []) ⟨hx, hb, hml, hown, hts⟩ (conX3_beside l D T ad F V sr C i k1 (by omega) (by omega)) (cwV 2 hts gL_law_X3_beside rfl rfl rfl (by decide +kernel) ⟨Nat.le_of_ble_eq_true rfl, Nat.le_of_ble_eq_true rfl⟩) (preV hK hw.pl.o rfl hw.pl) rfl rfl hl.1 rfl (lv_room (Nat.le_of_ble_eq_true rfl)) dL_law_619 ⟨by show _ ≤ 600086; omega, by show _ ≤ 7301442; omega⟩).run (fun r34 hr34 => ?_)
                                          rw [hr34]
                                          refine lv_iconst (v := nI 1) hx hb dL_law_622 (by decide) ?_
                                          refine lv_icmp_ne (tgt := 630) hx hb dL_law_623 (by decide) (fun c623 => ?_) (fun c623 => ?_)
                                          · skip
                                            refine lv_iconst (v := nI 0) hx hb dL_law_630 (by decide) ?_
                                            refine lv_aload_n hx hb dL_law_631 rfl (lv_at hl 11 rfl) ?_
                                            refine lv_iload hx hb dL_law_632 (lv_at hl 0 rfl) ?_
                                            refine lv_iload hx hb dL_law_634 (lv_at hl 8 rfl) ?_
                                            have hcs8 := hcs
                                            obtain ⟨dr, sr, C, la, vv, hdr, ho9, hsn, hw⟩ := hcs8
                                            refine vp_callSi (va_runV (As := [.int (nI k1), .int (nI i)]) (rest := [.int (nI 0)]) ⟨hx, hb, hml, hown, hts⟩ (conX3_beside l D T ad F V sr C k1 i (by omega) (by omega)) (cwV 2 hts gL_law_X3_beside rfl rfl rfl (by decide +kernel) ⟨Nat.le_of_ble_eq_true rfl, Nat.le_of_ble_eq_true rfl⟩) (preV hK hw.pl.o rfl hw.pl) rfl rfl hl.1 rfl (lv_room (Nat.le_of_ble_eq_true rfl)) dL_law_636 ⟨by show _ ≤ 600086; omega, by show _ ≤ 7301442; omega⟩).run (fun r35 hr35 => ?_)
                                            rw [hr35]
                                            refine lv_iconst (v := nI 2) hx hb dL_law_639 (by decide) ?_
                                            refine lv_icmp_ne (tgt := 647) hx hb dL_law_640 (by decide) (fun c640 => ?_) (fun c640 => ?_)
                                            · skip
                                              refine lv_iconst (v := nI 0) hx hb dL_law_647 (by decide) ?_
                                              refine lv_icmp_ne (tgt := 674) hx hb dL_law_648 (by decide) (fun c648 => ?_) (fun c648 => ?_)
                                              · skip
                                                have c648 : ¬ (0 = 0) := fun q9 => c648 ((nc_eq (a := 0) (b := 0) (by omega) (by omega)).mpr q9)
                                                omega
                                              · skip
                                                have c648 : 0 = 0 := (nc_eq (a := 0) (b := 0) (by omega) (by omega)).mp c648
                                                refine lv_aload_n hx hb dL_law_651 rfl (lv_at hl 11 rfl) ?_
                                                refine lv_iload hx hb dL_law_652 (lv_at hl 8 rfl) ?_
                                                refine lv_iload hx hb dL_law_654 (lv_at hl 0 rfl) ?_
                                                have hcs8 := hcs
                                                obtain ⟨dr, sr, C, la, vv, hdr, ho9, hsn, hw⟩ := hcs8
                                                refine vp_callSi (va_runV (As := [.int (nI i), .int (nI k1)]) (rest := []) ⟨hx, hb, hml, hown, hts⟩ (conX3_clear l D T ad F V sr C i k1 (by omega) (by omega)) (cwV 2 hts gL_law_X3_clear rfl rfl rfl (by decide +kernel) ⟨Nat.le_of_ble_eq_true rfl, Nat.le_of_ble_eq_true rfl⟩) (preV hK hw.pl.o rfl hw.pl) rfl rfl hl.1 rfl (lv_room (Nat.le_of_ble_eq_true rfl)) dL_law_656 ⟨by show _ ≤ 600086; omega, by show _ ≤ 7301442; omega⟩).run (fun r36 hr36 => ?_)
                                                refine lv_if_ne (tgt := 676) hx hb dL_law_659 (by decide) (fun c659 => ?_) (fun c659 => ?_)
                                                · skip
                                                  exact kk676 H1 locs1 ls hS (lv_sub hl [8, 4, 9, 10, 11, 12, 13, 14] rfl) hcs
                                                · skip
                                                  refine lv_aload_n hx hb dL_law_662 rfl (lv_at hl 11 rfl) ?_
                                                  refine lv_iload hx hb dL_law_663 (lv_at hl 8 rfl) ?_
                                                  refine lv_iconst (v := nI 0) hx hb dL_law_665 (by decide) ?_
                                                  refine lv_iload hx hb dL_law_666 (lv_at hl 0 rfl) ?_
                                                  have hcs8 := hcs
                                                  obtain ⟨dr, sr, C, la, vv, hdr, ho9, hsn, hw⟩ := hcs8
                                                  refine vp_callSi (va_runV (As := [.int (nI i), .int (nI 0), .int (nI k1)]) (rest := []) ⟨hx, hb, hml, hown, hts⟩ (conX3_meetWith l D T ad F V sr C i k1 (nI 0) (by omega) (by omega) (by decide) (by decide)) (cwV 3 hts gL_law_X3_meetWith rfl rfl rfl (by decide +kernel) ⟨Nat.le_of_ble_eq_true rfl, Nat.le_of_ble_eq_true rfl⟩) (preV hK hw.pl.o rfl hw.pl) rfl rfl hl.1 rfl (lv_room (Nat.le_of_ble_eq_true rfl)) dL_law_668 ⟨by show _ ≤ 600086; omega, by show _ ≤ 7301442; omega⟩).run (fun r37 hr37 => ?_)
                                                  rw [hr37]
                                                  rw [clr_0 hr36 c659]
                                                  refine lv_if_eq (tgt := 676) hx hb dL_law_671 (by decide) (fun c671 => ?_) (fun c671 => ?_)
                                                  · skip
                                                    have c671 : 0 = 0 := (nc_eq (a := 0) (b := 0) (by omega) (by omega)).mp c671
                                                    exact kk676 H1 locs1 ls hS (lv_sub hl [8, 4, 9, 10, 11, 12, 13, 14] rfl) hcs
                                                  · skip
                                                    have c671 : ¬ (0 = 0) := fun q9 => c671 ((nc_eq (a := 0) (b := 0) (by omega) (by omega)).mpr q9)
                                                    omega
                                            · skip
                                              exact absurd ((bes_sym1 _ _).mpr c640) c623
                                          · skip
                                            refine lv_iconst (v := nI 1) hx hb dL_law_626 (by decide) ?_
                                            refine lv_goto (tgt := 631) hx hb dL_law_627 (by decide) ?_
                                            refine lv_aload_n hx hb dL_law_631 rfl (lv_at hl 11 rfl) ?_
                                            refine lv_iload hx hb dL_law_632 (lv_at hl 0 rfl) ?_
                                            refine lv_iload hx hb dL_law_634 (lv_at hl 8 rfl) ?_
                                            have hcs8 := hcs
                                            obtain ⟨dr, sr, C, la, vv, hdr, ho9, hsn, hw⟩ := hcs8
                                            refine vp_callSi (va_runV (As := [.int (nI k1), .int (nI i)]) (rest := [.int (nI 1)]) ⟨hx, hb, hml, hown, hts⟩ (conX3_beside l D T ad F V sr C k1 i (by omega) (by omega)) (cwV 2 hts gL_law_X3_beside rfl rfl rfl (by decide +kernel) ⟨Nat.le_of_ble_eq_true rfl, Nat.le_of_ble_eq_true rfl⟩) (preV hK hw.pl.o rfl hw.pl) rfl rfl hl.1 rfl (lv_room (Nat.le_of_ble_eq_true rfl)) dL_law_636 ⟨by show _ ≤ 600086; omega, by show _ ≤ 7301442; omega⟩).run (fun r38 hr38 => ?_)
                                            rw [hr38]
                                            refine lv_iconst (v := nI 2) hx hb dL_law_639 (by decide) ?_
                                            refine lv_icmp_ne (tgt := 647) hx hb dL_law_640 (by decide) (fun c640 => ?_) (fun c640 => ?_)
                                            · skip
                                              exact absurd ((bes_sym1 _ _).mp c623) c640
                                            · skip
                                              refine lv_iconst (v := nI 1) hx hb dL_law_643 (by decide) ?_
                                              refine lv_goto (tgt := 648) hx hb dL_law_644 (by decide) ?_
                                              refine lv_icmp_ne (tgt := 674) hx hb dL_law_648 (by decide) (fun c648 => ?_) (fun c648 => ?_)
                                              · skip
                                                have c648 : ¬ (1 = 1) := fun q9 => c648 ((nc_eq (a := 1) (b := 1) (by omega) (by omega)).mpr q9)
                                                omega
                                              · skip
                                                have c648 : 1 = 1 := (nc_eq (a := 1) (b := 1) (by omega) (by omega)).mp c648
                                                refine lv_aload_n hx hb dL_law_651 rfl (lv_at hl 11 rfl) ?_
                                                refine lv_iload hx hb dL_law_652 (lv_at hl 8 rfl) ?_
                                                refine lv_iload hx hb dL_law_654 (lv_at hl 0 rfl) ?_
                                                have hcs8 := hcs
                                                obtain ⟨dr, sr, C, la, vv, hdr, ho9, hsn, hw⟩ := hcs8
                                                refine vp_callSi (va_runV (As := [.int (nI i), .int (nI k1)]) (rest := []) ⟨hx, hb, hml, hown, hts⟩ (conX3_clear l D T ad F V sr C i k1 (by omega) (by omega)) (cwV 2 hts gL_law_X3_clear rfl rfl rfl (by decide +kernel) ⟨Nat.le_of_ble_eq_true rfl, Nat.le_of_ble_eq_true rfl⟩) (preV hK hw.pl.o rfl hw.pl) rfl rfl hl.1 rfl (lv_room (Nat.le_of_ble_eq_true rfl)) dL_law_656 ⟨by show _ ≤ 600086; omega, by show _ ≤ 7301442; omega⟩).run (fun r39 hr39 => ?_)
                                                refine lv_if_ne (tgt := 676) hx hb dL_law_659 (by decide) (fun c659 => ?_) (fun c659 => ?_)
                                                · skip
                                                  exact kk676 H1 locs1 ls hS (lv_sub hl [8, 4, 9, 10, 11, 12, 13, 14] rfl) hcs
                                                · skip
                                                  refine lv_aload_n hx hb dL_law_662 rfl (lv_at hl 11 rfl) ?_
                                                  refine lv_iload hx hb dL_law_663 (lv_at hl 8 rfl) ?_
                                                  refine lv_iconst (v := nI 0) hx hb dL_law_665 (by decide) ?_
                                                  refine lv_iload hx hb dL_law_666 (lv_at hl 0 rfl) ?_
                                                  have hcs8 := hcs
                                                  obtain ⟨dr, sr, C, la, vv, hdr, ho9, hsn, hw⟩ := hcs8
                                                  refine vp_callSi (va_runV (As := [.int (nI i), .int (nI 0), .int (nI k1)]) (rest := []) ⟨hx, hb, hml, hown, hts⟩ (conX3_meetWith l D T ad F V sr C i k1 (nI 0) (by omega) (by omega) (by decide) (by decide)) (cwV 3 hts gL_law_X3_meetWith rfl rfl rfl (by decide +kernel) ⟨Nat.le_of_ble_eq_true rfl, Nat.le_of_ble_eq_true rfl⟩) (preV hK hw.pl.o rfl hw.pl) rfl rfl hl.1 rfl (lv_room (Nat.le_of_ble_eq_true rfl)) dL_law_668 ⟨by show _ ≤ 600086; omega, by show _ ≤ 7301442; omega⟩).run (fun r40 hr40 => ?_)
                                                  rw [hr40]
                                                  rw [clr_0 hr39 c659]
                                                  refine lv_if_eq (tgt := 676) hx hb dL_law_671 (by decide) (fun c671 => ?_) (fun c671 => ?_)
                                                  · skip
                                                    have c671 : 0 = 0 := (nc_eq (a := 0) (b := 0) (by omega) (by omega)).mp c671
                                                    exact kk676 H1 locs1 ls hS (lv_sub hl [8, 4, 9, 10, 11, 12, 13, 14] rfl) hcs
                                                  · skip
                                                    have c671 : ¬ (0 = 0) := fun q9 => c671 ((nc_eq (a := 0) (b := 0) (by omega) (by omega)).mpr q9)
                                                    omega
                                · skip
                                  have c546 : ¬ ((runs (F i)).1 = (runs (F i)).1) := fun q9 => c546 ((nc_eq (a := (runs (F i)).1) (b := (runs (F i)).1) (by omega) (by omega)).mpr q9)
                                  omega
                          · skip
                            have c506 : ¬ (0 ≤ u9) := fun q9 => c506 ((nc_le (a := 0) (b := u9) (by omega) (by omega)).mpr q9)
                            omega
                · skip
                  have c437 : ¬ (oddB (pB (F i)) (2 * 100 + 1) = lenL (runs (F i)) (runs (F i)).1) := fun q9 => c437 ((nc_eq (a := oddB (pB (F i)) (2 * 100 + 1)) (b := lenL (runs (F i)) (runs (F i)).1) (by omega) (by omega)).mpr q9)
                  exact absurd (show oddB (pB (F i)) (2 * 100 + 1) = lenL (runs (F i)) (runs (F i)).1 from hln9.symm) c437
