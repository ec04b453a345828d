/-! THE LAW: what leaves the checksum as it is -/
theorem lg_z (x : Int64) : lg_cmp x x = 0 := by
  have h1 : ¬ x < x := Int64.lt_irrefl
  simp [lg_cmp]
theorem op_chg02 {F G : Nat → Nat → Int32} {k : Nat} (h : ∃ s8 : SRs, G = va_up F k (chgG (F k) s8 0)) (t : SRs) : EqF F (va_up G k (chgG (G k) t 0)) := by
  obtain ⟨s8, h⟩ := h
  rw [h]
  exact op_chg0 F s8 t k
theorem op_chg42 {F G : Nat → Nat → Int32} {k : Nat} (h : ∃ s8 : SRs, G = va_up F k (chgG (F k) s8 4)) (t : SRs) : EqF F (va_up G k (chgG (G k) t 4)) := by
  obtain ⟨s8, h⟩ := h
  rw [h]
  exact op_chg4 F s8 t k
theorem op_turn02 {V W : Nat → Nat → Int32} (hV : ∀ i g : Nat, i < 5 → g < 201 → inL (V i g)) {k : Nat} (hk : k < 5) (h : W = trU V k 0) : EqV V (trU W k 0) := by
  rw [h]
  exact op_turn0 hV hk
theorem op_turn42 {V W : Nat → Nat → Int32} (hV : ∀ i g : Nat, i < 5 → g < 201 → inL (V i g)) {k : Nat} (hk : k < 5) (h : W = trU V k 4) : EqV V (trU W k 4) := by
  rw [h]
  exact op_turn4 hV hk
set_option maxHeartbeats 40000000 in
set_option maxRecDepth 100000 in
theorem seg_ops {p : Program} {l : Launch} {e : Env} {s : State} {m : MethodId} {args : Array Value} {below : List Frame} {meth : Method} {c : Code} {Q : State → Prop} {D : va_G} {T : Nat → ClassId} {A : Nat → Prop} {H : Heap} {locs : List Loc} {cells slots : Nat} {ls : Array Slot} (hc : LCx p s m args c D T) {ad : Nat → Nat} {o sc N : Nat} {sf : Nat → Int32} (hN : N < 2 ^ 30) (hA : ∀ z : Nat, o ≤ z → A z) (hcm : cells ≤ 600086) (hsm : slots ≤ 7301442) (hS : va_S A s.heap H locs) {d : Nat} {F V : Nat → Nat → Int32} {L : Nat → SL} {U : Nat → Nat → Int32} {b ti st : Nat} {d0 : Int64} (hd : d + 100 < 2 ^ 29) (hcs : CS D T ad o sc N sf d F V L U H) (hV : ∀ i g : Nat, i < 5 → g < 201 → inL (V i g)) (hd0 : ∀ s8 : SRs, dgG F V s8 = d0) (hl : lv_has ls 17 [(5, .long d0), (4, .int (nI st)), (3, .ref (ad 0)), (2, .ref o), (1, .int (nI ti)), (0, .ref b)]) (kk1141 : ∀ (F1 V1 : Nat → Nat → Int32) (H1 : Heap) (locs1 : List Loc) (ls1 : Array Slot), va_S A s.heap H1 locs1 → lv_has ls1 17 [(5, .long d0), (4, .int (nI st)), (3, .ref (ad 0)), (2, .ref o), (1, .int (nI ti)), (0, .ref b)] → EqF F F1 ∧ EqV V V1 ∧ CS D T ad o sc N sf (d + 4) F1 V1 L U H1 → W p l e room_1 s m args below meth c H1 locs1 cells slots Q (F0 m 1141 ls1 [])) : W p l e room_1 s m args below meth c H locs cells slots Q (F0 m 971 ls []) := by
  obtain ⟨hx, hb, hml, hown, hts, hK⟩ := hc
  obtain ⟨F1, hE, hcs⟩ : ∃ x8 : Nat → Nat → Int32, EqF F x8 ∧ CS D T ad o sc N sf d x8 V L U H := ⟨F, fun _ _ _ _ => rfl, hcs⟩
  obtain ⟨V1, hEV, hcs⟩ : ∃ x8 : Nat → Nat → Int32, EqV V x8 ∧ CS D T ad o sc N sf d F1 x8 L U H := ⟨V, fun k g hk hg => ⟨rfl, hV k g hk hg⟩, hcs⟩
  have hdd : ∀ s8 : SRs, dgG F1 V1 s8 = d0 := fun s8 => (dgG_ext hE (fun k g a b => (hEV k g a b).1) s8 s8).trans (hd0 s8)
  refine lv_aload_n hx hb dL_law_971 rfl (lv_at hl 2 rfl) ?_
  have hcs8 := hcs
  obtain ⟨dr, sr, C, la, vv, hdr, ho9, hsn, hw⟩ := hcs8
  refine va_calll (va_runV (As := []) (rest := []) ⟨hx, hb, hml, hown, hts⟩ (conX3_digest l D T ad F1 V1 sr C hsn) (cwV 0 hts gL_law_X3_digest rfl rfl rfl (by decide +kernel) ⟨Nat.le_of_ble_eq_true rfl, Nat.le_of_ble_eq_true rfl⟩) (preV hK hw.pl.o rfl hw.pl) rfl rfl hl.1 rfl (lv_room (Nat.le_of_ble_eq_true rfl)) dL_law_972 ⟨by show _ ≤ 600086; omega, by show _ ≤ 7301442; omega⟩) hS (fun q _ h9 => (by obtain ⟨i9, h8, rfl⟩ := h9; exact hA _ (by have := hw.1 i9 h8; omega))) (fun q h9 => (by obtain ⟨i9, h8, rfl⟩ := h9; exact hA _ (by have := hw.1 i9 h8; omega))) (fun r u t H1 locs1 ht hvm hw9 hB hz1 hk1 hS => ?_)
  try dsimp only at hB
  rw [ht] at hB
  rw [hw9]
  obtain ⟨C9, hB⟩ := hB
  replace hcs : CS D T ad o sc N sf (d) F1 V1 L U H1 := ⟨dr, ((dgA F1 sr 8).2), _, la, vv, by omega, by omega, (dgA_le hsn), hw.setP hB (fun q h1 h2 => hk1 q h1 h2)⟩
  refine lv_lload hx hb dL_law_975 (lv_at hl 0 rfl) ?_
  refine W.lcmp hx hb dL_law_977 ?_
  refine lv_if_eq (tgt := 983) hx hb dL_law_978 (by decide) (fun c978 => ?_) (fun c978 => ?_)
  · skip
    refine lv_aload_n hx hb dL_law_983 rfl (lv_at hl 3 rfl) ?_
    refine lv_bipush (v := nI 8) hx hb dL_law_984 (by decide) ?_
    have hcs8 := hcs
    obtain ⟨dr, sr, C, la, vv, hdr, ho9, hsn, hw⟩ := hcs8
    refine va_calli (va_runV (As := [.int (nI 8)]) (rest := []) ⟨hx, hb, hml, hown, hts⟩ (conX4_draw l D T ad o sc N sf dr F1 V1 sr C L U la vv (by omega) (by omega) 8 (by omega) (by omega)) (cwV 1 hts gL_law_X4_draw rfl rfl rfl (by decide +kernel) ⟨Nat.le_of_ble_eq_true rfl, Nat.le_of_ble_eq_true rfl⟩) (preV hK hw.ob rfl hw) rfl rfl hl.1 rfl (lv_room (Nat.le_of_ble_eq_true rfl)) dL_law_986 ⟨by show _ ≤ 600086; omega, by show _ ≤ 7301442; omega⟩) hS (fun q _ h9 => (by have h8 : q = o := h9; rw [h8]; exact hA o (Nat.le_refl _))) (fun q h9 => (by have h8 : q = o := h9; rw [h8]; exact hA o (Nat.le_refl _))) (fun r u t H1 locs1 ht hvm hw9 hB hz1 hk1 hS => ?_)
    try dsimp only at hB
    rw [ht] at hB
    obtain ⟨k1, hk1, rfl⟩ := hw9
    replace hcs : CS D T ad o sc N sf (d + 1) F1 V1 L U H1 := ⟨dr + 1, sr, C, la, vv, by omega, by omega, hsn, hB⟩
    refine lv_istore (lv' := [(9, .int (nI k1)), (5, .long d0), (4, .int (nI st)), (3, .ref (ad 0)), (2, .ref o), (1, .int (nI ti)), (0, .ref b)]) hx hb dL_law_989 hl (by decide) rfl (fun ls hl => ?_)
    refine lv_aload_n hx hb dL_law_991 rfl (lv_at hl 4 rfl) ?_
    refine lv_iconst (v := nI 5) hx hb dL_law_992 (by decide) ?_
    have hcs8 := hcs
    obtain ⟨dr, sr, C, la, vv, hdr, ho9, hsn, hw⟩ := hcs8
    refine va_calli (va_runV (As := [.int (nI 5)]) (rest := []) ⟨hx, hb, hml, hown, hts⟩ (conX4_draw l D T ad o sc N sf dr F1 V1 sr C L U la vv (by omega) (by omega) 5 (by omega) (by omega)) (cwV 1 hts gL_law_X4_draw rfl rfl rfl (by decide +kernel) ⟨Nat.le_of_ble_eq_true rfl, Nat.le_of_ble_eq_true rfl⟩) (preV hK hw.ob rfl hw) rfl rfl hl.1 rfl (lv_room (Nat.le_of_ble_eq_true rfl)) dL_law_993 ⟨by show _ ≤ 600086; omega, by show _ ≤ 7301442; omega⟩) hS (fun q _ h9 => (by have h8 : q = o := h9; rw [h8]; exact hA o (Nat.le_refl _))) (fun q h9 => (by have h8 : q = o := h9; rw [h8]; exact hA o (Nat.le_refl _))) (fun r u t H1 locs1 ht hvm hw9 hB hz1 hk1 hS => ?_)
    try dsimp only at hB
    rw [ht] at hB
    obtain ⟨k2, hk2, rfl⟩ := hw9
    replace hcs : CS D T ad o sc N sf (d + 1 + 1) F1 V1 L U H1 := ⟨dr + 1, sr, C, la, vv, by omega, by omega, hsn, hB⟩
    refine lv_istore (lv' := [(10, .int (nI k2)), (9, .int (nI k1)), (5, .long d0), (4, .int (nI st)), (3, .ref (ad 0)), (2, .ref o), (1, .int (nI ti)), (0, .ref b)]) hx hb dL_law_996 hl (by decide) rfl (fun ls hl => ?_)
    refine lv_aload_n hx hb dL_law_998 rfl (lv_at hl 4 rfl) ?_
    refine lv_iload hx hb dL_law_999 (lv_at hl 1 rfl) ?_
    refine lv_iload hx hb dL_law_1001 (lv_at hl 1 rfl) ?_
    refine lv_iload hx hb dL_law_1003 (lv_at hl 1 rfl) ?_
    refine lv_aload_n hx hb dL_law_1005 rfl (lv_at hl 5 rfl) ?_
    refine lv_iconst (v := nI 2) hx hb dL_law_1006 (by decide) ?_
    have hcs8 := hcs
    obtain ⟨dr, sr, C, la, vv, hdr, ho9, hsn, hw⟩ := hcs8
    refine va_calli (va_runV (As := [.int (nI 2)]) (rest := [.int (nI k1), .int (nI k1), .int (nI k1), .ref (ad 0)]) ⟨hx, hb, hml, hown, hts⟩ (conX4_draw l D T ad o sc N sf dr F1 V1 sr C L U la vv (by omega) (by omega) 2 (by omega) (by omega)) (cwV 1 hts gL_law_X4_draw rfl rfl rfl (by decide +kernel) ⟨Nat.le_of_ble_eq_true rfl, Nat.le_of_ble_eq_true rfl⟩) (preV hK hw.ob rfl hw) rfl rfl hl.1 rfl (lv_room (Nat.le_of_ble_eq_true rfl)) dL_law_1007 ⟨by show _ ≤ 600086; omega, by show _ ≤ 7301442; omega⟩) hS (fun q _ h9 => (by have h8 : q = o := h9; rw [h8]; exact hA o (Nat.le_refl _))) (fun q h9 => (by have h8 : q = o := h9; rw [h8]; exact hA o (Nat.le_refl _))) (fun r u t H1 locs1 ht hvm hw9 hB hz1 hk1 hS => ?_)
    try dsimp only at hB
    rw [ht] at hB
    obtain ⟨k3, hk3, rfl⟩ := hw9
    replace hcs : CS D T ad o sc N sf (d + 1 + 1 + 1) F1 V1 L U H1 := ⟨dr + 1, sr, C, la, vv, by omega, by omega, hsn, hB⟩
    have hcs8 := hcs
    obtain ⟨dr, sr, C, la, vv, hdr, ho9, hsn, hw⟩ := hcs8
    refine va_calli (va_runV (As := [.int (nI k1), .int (nI k1), .int (nI k1), .int (nI k3)]) (rest := []) ⟨hx, hb, hml, hown, hts⟩ (conX3_join l D T ad F1 V1 sr C k1 k1 k1 k3 (by omega) (by omega) (by omega) (by omega)) (cwV 4 hts gL_law_X3_join rfl rfl rfl (by decide +kernel) ⟨Nat.le_of_ble_eq_true rfl, Nat.le_of_ble_eq_true rfl⟩) (preV hK hw.pl.o rfl hw.pl) rfl rfl hl.1 rfl (lv_room (Nat.le_of_ble_eq_true rfl)) dL_law_1010 ⟨by show _ ≤ 600086; omega, by show _ ≤ 7301442; omega⟩) hS (fun q _ h9 => (by obtain ⟨i9, h8, rfl⟩ := h9; exact hA _ (by have := hw.1 i9 h8; omega))) (fun q h9 => (by obtain ⟨i9, h8, rfl⟩ := h9; exact hA _ (by have := hw.1 i9 h8; omega))) (fun r u t H1 locs1 ht hvm hw9 hB hz1 hk1 hS => ?_)
    try dsimp only at hB
    rw [ht] at hB
    rw [hw9]
    replace hcs : CS D T ad o sc N sf (d + 1 + 1 + 1) (va_up F1 k1 (jnZ F1 k1 k1 k1 k3 201)) V1 L U H1 := ⟨dr, sr, _, la, vv, by omega, by omega, hsn, hw.setP hB (fun q h1 h2 => hk1 q h1 h2)⟩
    obtain ⟨F1, hE, hcs⟩ : ∃ x8 : Nat → Nat → Int32, EqF F x8 ∧ CS D T ad o sc N sf (d + 1 + 1 + 1) x8 V1 L U H1 := ⟨_, hE.trans (op_join F1 k1 (by omega)), hcs⟩
    refine lv_pop hx hb dL_law_1013 rfl ?_
    refine lv_aload_n hx hb dL_law_1014 rfl (lv_at hl 4 rfl) ?_
    refine lv_iload hx hb dL_law_1015 (lv_at hl 1 rfl) ?_
    refine lv_iconst (v := nI 0) hx hb dL_law_1017 (by decide) ?_
    have hcs8 := hcs
    obtain ⟨dr, sr, C, la, vv, hdr, ho9, hsn, hw⟩ := hcs8
    refine va_calli (va_runV (As := [.int (nI k1), .int (nI 0)]) (rest := []) ⟨hx, hb, hml, hown, hts⟩ (conX3_move l D T ad F1 V1 sr C k1 (nI 0) (by omega) (by decide) (by decide)) (cwV 2 hts gL_law_X3_move rfl rfl rfl (by decide +kernel) ⟨Nat.le_of_ble_eq_true rfl, Nat.le_of_ble_eq_true rfl⟩) (preV hK hw.pl.o rfl hw.pl) rfl rfl hl.1 rfl (lv_room (Nat.le_of_ble_eq_true rfl)) dL_law_1018 ⟨by show _ ≤ 600086; omega, by show _ ≤ 7301442; omega⟩) hS (fun q _ h9 => (by obtain ⟨i9, h8, rfl⟩ := h9; exact hA _ (by have := hw.1 i9 h8; omega))) (fun q h9 => (by obtain ⟨i9, h8, rfl⟩ := h9; exact hA _ (by have := hw.1 i9 h8; omega))) (fun r u t H1 locs1 ht hvm hw9 hB hz1 hk1 hS => ?_)
    try dsimp only at hB
    rw [ht] at hB
    rw [hw9]
    replace hcs : CS D T ad o sc N sf (d + 1 + 1 + 1) (va_up (va_up F1 8 (copyZ (F1 8) (F1 k1) 201)) k1 (movZ (va_up F1 8 (copyZ (F1 8) (F1 k1) 201)) k1 (nI 2 * nI 0) 201)) V1 L U H1 := ⟨dr, sr, _, la, vv, by omega, by omega, hsn, hw.setP hB (fun q h1 h2 => hk1 q h1 h2)⟩
    obtain ⟨F1, hE, hcs⟩ : ∃ x8 : Nat → Nat → Int32, EqF F x8 ∧ CS D T ad o sc N sf (d + 1 + 1 + 1) x8 V1 L U H1 := ⟨_, hE.trans (op_move F1 (k := k1) (by omega)), hcs⟩
    refine lv_pop hx hb dL_law_1021 rfl ?_
    refine lv_aload_n hx hb dL_law_1022 rfl (lv_at hl 4 rfl) ?_
    refine lv_iload hx hb dL_law_1023 (lv_at hl 0 rfl) ?_
    refine lv_iload hx hb dL_law_1025 (lv_at hl 0 rfl) ?_
    refine lv_iload hx hb dL_law_1027 (lv_at hl 0 rfl) ?_
    refine lv_iconst (v := nI 1) hx hb dL_law_1029 (by decide) ?_
    refine lv_aload_n hx hb dL_law_1030 rfl (lv_at hl 5 rfl) ?_
    refine lv_iconst (v := nI 2) hx hb dL_law_1031 (by decide) ?_
    have hcs8 := hcs
    obtain ⟨dr, sr, C, la, vv, hdr, ho9, hsn, hw⟩ := hcs8
    refine va_calli (va_runV (As := [.int (nI 2)]) (rest := [.int (nI 1), .int (nI k2), .int (nI k2), .int (nI k2), .ref (ad 0)]) ⟨hx, hb, hml, hown, hts⟩ (conX4_draw l D T ad o sc N sf dr F1 V1 sr C L U la vv (by omega) (by omega) 2 (by omega) (by omega)) (cwV 1 hts gL_law_X4_draw rfl rfl rfl (by decide +kernel) ⟨Nat.le_of_ble_eq_true rfl, Nat.le_of_ble_eq_true rfl⟩) (preV hK hw.ob rfl hw) rfl rfl hl.1 rfl (lv_room (Nat.le_of_ble_eq_true rfl)) dL_law_1032 ⟨by show _ ≤ 600086; omega, by show _ ≤ 7301442; omega⟩) hS (fun q _ h9 => (by have h8 : q = o := h9; rw [h8]; exact hA o (Nat.le_refl _))) (fun q h9 => (by have h8 : q = o := h9; rw [h8]; exact hA o (Nat.le_refl _))) (fun r u t H1 locs1 ht hvm hw9 hB hz1 hk1 hS => ?_)
    try dsimp only at hB
    rw [ht] at hB
    obtain ⟨k4, hk4, rfl⟩ := hw9
    replace hcs : CS D T ad o sc N sf (d + 1 + 1 + 1 + 1) F1 V1 L U H1 := ⟨dr + 1, sr, C, la, vv, by omega, by omega, hsn, hB⟩
    refine lv_iadd hx hb dL_law_1035 ?_
    rw [nI_add]
    have hcs8 := hcs
    obtain ⟨dr, sr, C, la, vv, hdr, ho9, hsn, hw⟩ := hcs8
    refine va_calli (va_runV (As := [.int (nI k2), .int (nI k2), .int (nI k2), .int (nI (1 + k4))]) (rest := []) ⟨hx, hb, hml, hown, hts⟩ (conX3_mix l D T ad F1 V1 sr C k2 k2 k2 (1 + k4) (by omega) (by omega) (by omega) (by omega)) (cwV 4 hts gL_law_X3_mix rfl rfl rfl (by decide +kernel) ⟨Nat.le_of_ble_eq_true rfl, Nat.le_of_ble_eq_true rfl⟩) (preV hK hw.pl.o rfl hw.pl) rfl rfl hl.1 rfl (lv_room (Nat.le_of_ble_eq_true rfl)) dL_law_1036 ⟨by show _ ≤ 600086; omega, by show _ ≤ 7301442; omega⟩) hS (fun q _ h9 => (by obtain ⟨i9, h8, rfl⟩ := h9; exact hA _ (by have := hw.1 i9 h8; omega))) (fun q h9 => (by obtain ⟨i9, h8, rfl⟩ := h9; exact hA _ (by have := hw.1 i9 h8; omega))) (fun r u t H1 locs1 ht hvm hw9 hB hz1 hk1 hS => ?_)
    try dsimp only at hB
    rw [ht] at hB
    rw [hw9]
    replace hcs : CS D T ad o sc N sf (d + 1 + 1 + 1 + 1) F1 (va_up V1 k2 (mxV V1 k2 k2 k2 (1 + k4) 201)) L U H1 := ⟨dr, sr, _, la, vv, by omega, by omega, hsn, hw.setP hB (fun q h1 h2 => hk1 q h1 h2)⟩
    obtain ⟨V1, hEV, hcs⟩ : ∃ x8 : Nat → Nat → Int32, EqV V x8 ∧ CS D T ad o sc N sf (d + 1 + 1 + 1 + 1) F1 x8 L U H1 := ⟨_, hEV.trans (op_mix hEV.inl (by omega) (by omega)), hcs⟩
    refine lv_pop hx hb dL_law_1039 rfl ?_
    refine lv_aload_n hx hb dL_law_1040 rfl (lv_at hl 4 rfl) ?_
    refine lv_iload hx hb dL_law_1041 (lv_at hl 0 rfl) ?_
    refine lv_iconst (v := nI 0) hx hb dL_law_1043 (by decide) ?_
    refine lv_iconst (v := nI 0) hx hb dL_law_1044 (by decide) ?_
    have hcs8 := hcs
    obtain ⟨dr, sr, C, la, vv, hdr, ho9, hsn, hw⟩ := hcs8
    refine va_calli (va_runV (As := [.int (nI k2), .int (nI 0), .int (nI 0)]) (rest := []) ⟨hx, hb, hml, hown, hts⟩ (conX3_turn l D T ad F1 V1 sr C k2 0 0 (nI 0) (by omega) (by omega) (fun _ => ⟨rfl, by omega⟩)) (cwV 3 hts gL_law_X3_turn rfl rfl rfl (by decide +kernel) ⟨Nat.le_of_ble_eq_true rfl, Nat.le_of_ble_eq_true rfl⟩) (preV hK hw.pl.o rfl hw.pl) rfl rfl hl.1 rfl (lv_room (Nat.le_of_ble_eq_true rfl)) dL_law_1045 ⟨by show _ ≤ 600086; omega, by show _ ≤ 7301442; omega⟩) hS (fun q _ h9 => (by obtain ⟨i9, h8, rfl⟩ := h9; exact hA _ (by have := hw.1 i9 h8; omega))) (fun q h9 => (by obtain ⟨i9, h8, rfl⟩ := h9; exact hA _ (by have := hw.1 i9 h8; omega))) (fun r u t H1 locs1 ht hvm hw9 hB hz1 hk1 hS => ?_)
    try dsimp only at hB
    rw [ht] at hB
    rw [hw9]
    replace hcs : CS D T ad o sc N sf (d + 1 + 1 + 1 + 1) F1 (trU V1 k2 0) L U H1 := ⟨dr, sr, _, la, vv, by omega, by omega, hsn, hw.setP hB (fun q h1 h2 => hk1 q h1 h2)⟩
    obtain ⟨V2, hV2, hcs⟩ : ∃ x8 : Nat → Nat → Int32, x8 = trU V1 k2 0 ∧ CS D T ad o sc N sf (d + 1 + 1 + 1 + 1) F1 x8 L U H1 := ⟨_, rfl, hcs⟩
    refine lv_pop hx hb dL_law_1048 rfl ?_
    refine lv_aload_n hx hb dL_law_1049 rfl (lv_at hl 4 rfl) ?_
    refine lv_iload hx hb dL_law_1050 (lv_at hl 0 rfl) ?_
    refine lv_iconst (v := nI 0) hx hb dL_law_1052 (by decide) ?_
    refine lv_iconst (v := nI 0) hx hb dL_law_1053 (by decide) ?_
    have hcs8 := hcs
    obtain ⟨dr, sr, C, la, vv, hdr, ho9, hsn, hw⟩ := hcs8
    refine va_calli (va_runV (As := [.int (nI k2), .int (nI 0), .int (nI 0)]) (rest := []) ⟨hx, hb, hml, hown, hts⟩ (conX3_turn l D T ad F1 V2 sr C k2 0 0 (nI 0) (by omega) (by omega) (fun _ => ⟨rfl, by omega⟩)) (cwV 3 hts gL_law_X3_turn rfl rfl rfl (by decide +kernel) ⟨Nat.le_of_ble_eq_true rfl, Nat.le_of_ble_eq_true rfl⟩) (preV hK hw.pl.o rfl hw.pl) rfl rfl hl.1 rfl (lv_room (Nat.le_of_ble_eq_true rfl)) dL_law_1054 ⟨by show _ ≤ 600086; omega, by show _ ≤ 7301442; omega⟩) hS (fun q _ h9 => (by obtain ⟨i9, h8, rfl⟩ := h9; exact hA _ (by have := hw.1 i9 h8; omega))) (fun q h9 => (by obtain ⟨i9, h8, rfl⟩ := h9; exact hA _ (by have := hw.1 i9 h8; omega))) (fun r u t H1 locs1 ht hvm hw9 hB hz1 hk1 hS => ?_)
    try dsimp only at hB
    rw [ht] at hB
    rw [hw9]
    replace hcs : CS D T ad o sc N sf (d + 1 + 1 + 1 + 1) F1 (trU V2 k2 0) L U H1 := ⟨dr, sr, _, la, vv, by omega, by omega, hsn, hw.setP hB (fun q h1 h2 => hk1 q h1 h2)⟩
    obtain ⟨V1, hEV, hcs⟩ : ∃ x8 : Nat → Nat → Int32, EqV V x8 ∧ CS D T ad o sc N sf (d + 1 + 1 + 1 + 1) F1 x8 L U H1 := ⟨_, hEV.trans (op_turn02 hEV.inl (by omega) hV2), hcs⟩
    refine lv_pop hx hb dL_law_1057 rfl ?_
    refine lv_aload_n hx hb dL_law_1058 rfl (lv_at hl 4 rfl) ?_
    refine lv_iload hx hb dL_law_1059 (lv_at hl 0 rfl) ?_
    refine lv_iconst (v := nI 4) hx hb dL_law_1061 (by decide) ?_
    refine lv_iconst (v := nI 0) hx hb dL_law_1062 (by decide) ?_
    have hcs8 := hcs
    obtain ⟨dr, sr, C, la, vv, hdr, ho9, hsn, hw⟩ := hcs8
    refine va_calli (va_runV (As := [.int (nI k2), .int (nI 4), .int (nI 0)]) (rest := []) ⟨hx, hb, hml, hown, hts⟩ (conX3_turn l D T ad F1 V1 sr C k2 4 0 (nI 0) (by omega) (by omega) (fun _ => ⟨rfl, by omega⟩)) (cwV 3 hts gL_law_X3_turn rfl rfl rfl (by decide +kernel) ⟨Nat.le_of_ble_eq_true rfl, Nat.le_of_ble_eq_true rfl⟩) (preV hK hw.pl.o rfl hw.pl) rfl rfl hl.1 rfl (lv_room (Nat.le_of_ble_eq_true rfl)) dL_law_1063 ⟨by show _ ≤ 600086; omega, by show _ ≤ 7301442; omega⟩) hS (fun q _ h9 => (by obtain ⟨i9, h8, rfl⟩ := h9; exact hA _ (by have := hw.1 i9 h8; omega))) (fun q h9 => (by obtain ⟨i9, h8, rfl⟩ := h9; exact hA _ (by have := hw.1 i9 h8; omega))) (fun r u t H1 locs1 ht hvm hw9 hB hz1 hk1 hS => ?_)
    try dsimp only at hB
    rw [ht] at hB
    rw [hw9]
    replace hcs : CS D T ad o sc N sf (d + 1 + 1 + 1 + 1) F1 (trU V1 k2 4) L U H1 := ⟨dr, sr, _, la, vv, by omega, by omega, hsn, hw.setP hB (fun q h1 h2 => hk1 q h1 h2)⟩
    obtain ⟨V2, hV2, hcs⟩ : ∃ x8 : Nat → Nat → Int32, x8 = trU V1 k2 4 ∧ CS D T ad o sc N sf (d + 1 + 1 + 1 + 1) F1 x8 L U H1 := ⟨_, rfl, hcs⟩
    refine lv_pop hx hb dL_law_1066 rfl ?_
    refine lv_aload_n hx hb dL_law_1067 rfl (lv_at hl 4 rfl) ?_
    refine lv_iload hx hb dL_law_1068 (lv_at hl 0 rfl) ?_
    refine lv_iconst (v := nI 4) hx hb dL_law_1070 (by decide) ?_
    refine lv_iconst (v := nI 0) hx hb dL_law_1071 (by decide) ?_
    have hcs8 := hcs
    obtain ⟨dr, sr, C, la, vv, hdr, ho9, hsn, hw⟩ := hcs8
    refine va_calli (va_runV (As := [.int (nI k2), .int (nI 4), .int (nI 0)]) (rest := []) ⟨hx, hb, hml, hown, hts⟩ (conX3_turn l D T ad F1 V2 sr C k2 4 0 (nI 0) (by omega) (by omega) (fun _ => ⟨rfl, by omega⟩)) (cwV 3 hts gL_law_X3_turn rfl rfl rfl (by decide +kernel) ⟨Nat.le_of_ble_eq_true rfl, Nat.le_of_ble_eq_true rfl⟩) (preV hK hw.pl.o rfl hw.pl) rfl rfl hl.1 rfl (lv_room (Nat.le_of_ble_eq_true rfl)) dL_law_1072 ⟨by show _ ≤ 600086; omega, by show _ ≤ 7301442; omega⟩) hS (fun q _ h9 => (by obtain ⟨i9, h8, rfl⟩ := h9; exact hA _ (by have := hw.1 i9 h8; omega))) (fun q h9 => (by obtain ⟨i9, h8, rfl⟩ := h9; exact hA _ (by have := hw.1 i9 h8; omega))) (fun r u t H1 locs1 ht hvm hw9 hB hz1 hk1 hS => ?_)
    try dsimp only at hB
    rw [ht] at hB
    rw [hw9]
    replace hcs : CS D T ad o sc N sf (d + 1 + 1 + 1 + 1) F1 (trU V2 k2 4) L U H1 := ⟨dr, sr, _, la, vv, by omega, by omega, hsn, hw.setP hB (fun q h1 h2 => hk1 q h1 h2)⟩
    obtain ⟨V1, hEV, hcs⟩ : ∃ x8 : Nat → Nat → Int32, EqV V x8 ∧ CS D T ad o sc N sf (d + 1 + 1 + 1 + 1) F1 x8 L U H1 := ⟨_, hEV.trans (op_turn42 hEV.inl (by omega) hV2), hcs⟩
    refine lv_pop hx hb dL_law_1075 rfl ?_
    refine lv_aload_n hx hb dL_law_1076 rfl (lv_at hl 4 rfl) ?_
    refine lv_iload hx hb dL_law_1077 (lv_at hl 0 rfl) ?_
    refine lv_iconst (v := nI 5) hx hb dL_law_1079 (by decide) ?_
    refine lv_iconst (v := nI 0) hx hb dL_law_1080 (by decide) ?_
    have hcs8 := hcs
    obtain ⟨dr, sr, C, la, vv, hdr, ho9, hsn, hw⟩ := hcs8
    refine va_calli (va_runV (As := [.int (nI k2), .int (nI 5), .int (nI 0)]) (rest := []) ⟨hx, hb, hml, hown, hts⟩ (conX3_turn l D T ad F1 V1 sr C k2 5 0 (nI 0) (by omega) (by omega) (fun _ => ⟨rfl, by omega⟩)) (cwV 3 hts gL_law_X3_turn rfl rfl rfl (by decide +kernel) ⟨Nat.le_of_ble_eq_true rfl, Nat.le_of_ble_eq_true rfl⟩) (preV hK hw.pl.o rfl hw.pl) rfl rfl hl.1 rfl (lv_room (Nat.le_of_ble_eq_true rfl)) dL_law_1081 ⟨by show _ ≤ 600086; omega, by show _ ≤ 7301442; omega⟩) hS (fun q _ h9 => (by obtain ⟨i9, h8, rfl⟩ := h9; exact hA _ (by have := hw.1 i9 h8; omega))) (fun q h9 => (by obtain ⟨i9, h8, rfl⟩ := h9; exact hA _ (by have := hw.1 i9 h8; omega))) (fun r u t H1 locs1 ht hvm hw9 hB hz1 hk1 hS => ?_)
    try dsimp only at hB
    rw [ht] at hB
    rw [hw9]
    replace hcs : CS D T ad o sc N sf (d + 1 + 1 + 1 + 1) F1 (trU V1 k2 5) L U H1 := ⟨dr, sr, _, la, vv, by omega, by omega, hsn, hw.setP hB (fun q h1 h2 => hk1 q h1 h2)⟩
    obtain ⟨V1, hEV, hcs⟩ : ∃ x8 : Nat → Nat → Int32, EqV V x8 ∧ CS D T ad o sc N sf (d + 1 + 1 + 1 + 1) F1 x8 L U H1 := ⟨_, hEV.trans (op_turn5 hEV.inl (by omega)), hcs⟩
    refine lv_pop hx hb dL_law_1084 rfl ?_
    refine lv_aload_n hx hb dL_law_1085 rfl (lv_at hl 4 rfl) ?_
    refine lv_iload hx hb dL_law_1086 (lv_at hl 0 rfl) ?_
    refine lv_iconst (v := nI 0) hx hb dL_law_1088 (by decide) ?_
    refine lv_bipush (v := nI 100) hx hb dL_law_1089 (by decide) ?_
    refine lv_iconst (v := nI 3) hx hb dL_law_1091 (by decide) ?_
    refine lv_iconst (v := nI 0) hx hb dL_law_1092 (by decide) ?_
    have hcs8 := hcs
    obtain ⟨dr, sr, C, la, vv, hdr, ho9, hsn, hw⟩ := hcs8
    refine va_calli (va_runV (As := [.int (nI k2), .int (nI 0), .int (nI 100), .int (nI 3), .int (nI 0)]) (rest := []) ⟨hx, hb, hml, hown, hts⟩ (conX3_raise l D T ad F1 V1 sr C k2 (by omega) 0 100 3 (nI 0) (by omega) (by omega) (by omega) (by decide) (by decide)) (cwV 5 hts gL_law_X3_raise rfl rfl rfl (by decide +kernel) ⟨Nat.le_of_ble_eq_true rfl, Nat.le_of_ble_eq_true rfl⟩) (preV hK hw.pl.o rfl hw.pl) rfl rfl hl.1 rfl (lv_room (Nat.le_of_ble_eq_true rfl)) dL_law_1093 ⟨by show _ ≤ 600086; omega, by show _ ≤ 7301442; omega⟩) hS (fun q _ h9 => (by obtain ⟨i9, h8, rfl⟩ := h9; exact hA _ (by have := hw.1 i9 h8; omega))) (fun q h9 => (by obtain ⟨i9, h8, rfl⟩ := h9; exact hA _ (by have := hw.1 i9 h8; omega))) (fun r u t H1 locs1 ht hvm hw9 hB hz1 hk1 hS => ?_)
    try dsimp only at hB
    rw [ht] at hB
    rw [hw9]
    replace hcs : CS D T ad o sc N sf (d + 1 + 1 + 1 + 1) F1 (va_up V1 k2 (raiV (V1 k2) (nI 0) (fgN 0 100 3) (lgN 0 100 3 - fgN 0 100 3))) L U H1 := ⟨dr, sr, _, la, vv, by omega, by omega, hsn, hw.setP hB (fun q h1 h2 => hk1 q h1 h2)⟩
    obtain ⟨V1, hEV, hcs⟩ : ∃ x8 : Nat → Nat → Int32, EqV V x8 ∧ CS D T ad o sc N sf (d + 1 + 1 + 1 + 1) F1 x8 L U H1 := ⟨_, hEV.trans (op_raise hEV.inl (by omega) (by decide)), hcs⟩
    refine lv_pop hx hb dL_law_1096 rfl ?_
    refine lv_aload_n hx hb dL_law_1097 rfl (lv_at hl 4 rfl) ?_
    refine lv_iload hx hb dL_law_1098 (lv_at hl 1 rfl) ?_
    refine lv_iconst (v := nI 0) hx hb dL_law_1100 (by decide) ?_
    have hcs8 := hcs
    obtain ⟨dr, sr, C, la, vv, hdr, ho9, hsn, hw⟩ := hcs8
    refine va_calli (va_runV (As := [.int (nI k1), .int (nI 0)]) (rest := []) ⟨hx, hb, hml, hown, hts⟩ (conX3_change l D T ad F1 V1 sr C k1 0 (by omega) (by omega) hsn) (cwV 2 hts gL_law_X3_change rfl rfl rfl (by decide +kernel) ⟨Nat.le_of_ble_eq_true rfl, Nat.le_of_ble_eq_true rfl⟩) (preV hK hw.pl.o rfl hw.pl) rfl rfl hl.1 rfl (lv_room (Nat.le_of_ble_eq_true rfl)) dL_law_1101 ⟨by show _ ≤ 600086; omega, by show _ ≤ 7301442; omega⟩) hS (fun q _ h9 => (by obtain ⟨i9, h8, rfl⟩ := h9; exact hA _ (by have := hw.1 i9 h8; omega))) (fun q h9 => (by obtain ⟨i9, h8, rfl⟩ := h9; exact hA _ (by have := hw.1 i9 h8; omega))) (fun r u t H1 locs1 ht hvm hw9 hB hz1 hk1 hS => ?_)
    try dsimp only at hB
    rw [ht] at hB
    rw [hw9]
    replace hcs : CS D T ad o sc N sf (d + 1 + 1 + 1 + 1) (va_up F1 k1 (chgG (F1 k1) sr 0)) V1 L U H1 := ⟨dr, (chgS (F1 k1) sr 0), _, la, vv, by omega, by omega, (chgS_le hsn), hw.setP hB (fun q h1 h2 => hk1 q h1 h2)⟩
    obtain ⟨F2, hF2, hcs⟩ : ∃ x8 : Nat → Nat → Int32, (∃ s8 : SRs, x8 = va_up F1 k1 (chgG (F1 k1) s8 0)) ∧ CS D T ad o sc N sf (d + 1 + 1 + 1 + 1) x8 V1 L U H1 := ⟨_, ⟨_, rfl⟩, hcs⟩
    refine lv_pop hx hb dL_law_1104 rfl ?_
    refine lv_aload_n hx hb dL_law_1105 rfl (lv_at hl 4 rfl) ?_
    refine lv_iload hx hb dL_law_1106 (lv_at hl 1 rfl) ?_
    refine lv_iconst (v := nI 0) hx hb dL_law_1108 (by decide) ?_
    have hcs8 := hcs
    obtain ⟨dr, sr, C, la, vv, hdr, ho9, hsn, hw⟩ := hcs8
    refine va_calli (va_runV (As := [.int (nI k1), .int (nI 0)]) (rest := []) ⟨hx, hb, hml, hown, hts⟩ (conX3_change l D T ad F2 V1 sr C k1 0 (by omega) (by omega) hsn) (cwV 2 hts gL_law_X3_change rfl rfl rfl (by decide +kernel) ⟨Nat.le_of_ble_eq_true rfl, Nat.le_of_ble_eq_true rfl⟩) (preV hK hw.pl.o rfl hw.pl) rfl rfl hl.1 rfl (lv_room (Nat.le_of_ble_eq_true rfl)) dL_law_1109 ⟨by show _ ≤ 600086; omega, by show _ ≤ 7301442; omega⟩) hS (fun q _ h9 => (by obtain ⟨i9, h8, rfl⟩ := h9; exact hA _ (by have := hw.1 i9 h8; omega))) (fun q h9 => (by obtain ⟨i9, h8, rfl⟩ := h9; exact hA _ (by have := hw.1 i9 h8; omega))) (fun r u t H1 locs1 ht hvm hw9 hB hz1 hk1 hS => ?_)
    try dsimp only at hB
    rw [ht] at hB
    rw [hw9]
    replace hcs : CS D T ad o sc N sf (d + 1 + 1 + 1 + 1) (va_up F2 k1 (chgG (F2 k1) sr 0)) V1 L U H1 := ⟨dr, (chgS (F2 k1) sr 0), _, la, vv, by omega, by omega, (chgS_le hsn), hw.setP hB (fun q h1 h2 => hk1 q h1 h2)⟩
    obtain ⟨F1, hE, hcs⟩ : ∃ x8 : Nat → Nat → Int32, EqF F x8 ∧ CS D T ad o sc N sf (d + 1 + 1 + 1 + 1) x8 V1 L U H1 := ⟨_, hE.trans (op_chg02 hF2 _), hcs⟩
    refine lv_pop hx hb dL_law_1112 rfl ?_
    refine lv_aload_n hx hb dL_law_1113 rfl (lv_at hl 4 rfl) ?_
    refine lv_iload hx hb dL_law_1114 (lv_at hl 1 rfl) ?_
    refine lv_iconst (v := nI 4) hx hb dL_law_1116 (by decide) ?_
    have hcs8 := hcs
    obtain ⟨dr, sr, C, la, vv, hdr, ho9, hsn, hw⟩ := hcs8
    refine va_calli (va_runV (As := [.int (nI k1), .int (nI 4)]) (rest := []) ⟨hx, hb, hml, hown, hts⟩ (conX3_change l D T ad F1 V1 sr C k1 4 (by omega) (by omega) hsn) (cwV 2 hts gL_law_X3_change rfl rfl rfl (by decide +kernel) ⟨Nat.le_of_ble_eq_true rfl, Nat.le_of_ble_eq_true rfl⟩) (preV hK hw.pl.o rfl hw.pl) rfl rfl hl.1 rfl (lv_room (Nat.le_of_ble_eq_true rfl)) dL_law_1117 ⟨by show _ ≤ 600086; omega, by show _ ≤ 7301442; omega⟩) hS (fun q _ h9 => (by obtain ⟨i9, h8, rfl⟩ := h9; exact hA _ (by have := hw.1 i9 h8; omega))) (fun q h9 => (by obtain ⟨i9, h8, rfl⟩ := h9; exact hA _ (by have := hw.1 i9 h8; omega))) (fun r u t H1 locs1 ht hvm hw9 hB hz1 hk1 hS => ?_)
    try dsimp only at hB
    rw [ht] at hB
    rw [hw9]
    replace hcs : CS D T ad o sc N sf (d + 1 + 1 + 1 + 1) (va_up F1 k1 (chgG (F1 k1) sr 4)) V1 L U H1 := ⟨dr, (chgS (F1 k1) sr 4), _, la, vv, by omega, by omega, (chgS_le hsn), hw.setP hB (fun q h1 h2 => hk1 q h1 h2)⟩
    obtain ⟨F2, hF2, hcs⟩ : ∃ x8 : Nat → Nat → Int32, (∃ s8 : SRs, x8 = va_up F1 k1 (chgG (F1 k1) s8 4)) ∧ CS D T ad o sc N sf (d + 1 + 1 + 1 + 1) x8 V1 L U H1 := ⟨_, ⟨_, rfl⟩, hcs⟩
    refine lv_pop hx hb dL_law_1120 rfl ?_
    refine lv_aload_n hx hb dL_law_1121 rfl (lv_at hl 4 rfl) ?_
    refine lv_iload hx hb dL_law_1122 (lv_at hl 1 rfl) ?_
    refine lv_iconst (v := nI 4) hx hb dL_law_1124 (by decide) ?_
    have hcs8 := hcs
    obtain ⟨dr, sr, C, la, vv, hdr, ho9, hsn, hw⟩ := hcs8
    refine va_calli (va_runV (As := [.int (nI k1), .int (nI 4)]) (rest := []) ⟨hx, hb, hml, hown, hts⟩ (conX3_change l D T ad F2 V1 sr C k1 4 (by omega) (by omega) hsn) (cwV 2 hts gL_law_X3_change rfl rfl rfl (by decide +kernel) ⟨Nat.le_of_ble_eq_true rfl, Nat.le_of_ble_eq_true rfl⟩) (preV hK hw.pl.o rfl hw.pl) rfl rfl hl.1 rfl (lv_room (Nat.le_of_ble_eq_true rfl)) dL_law_1125 ⟨by show _ ≤ 600086; omega, by show _ ≤ 7301442; omega⟩) hS (fun q _ h9 => (by obtain ⟨i9, h8, rfl⟩ := h9; exact hA _ (by have := hw.1 i9 h8; omega))) (fun q h9 => (by obtain ⟨i9, h8, rfl⟩ := h9; exact hA _ (by have := hw.1 i9 h8; omega))) (fun r u t H1 locs1 ht hvm hw9 hB hz1 hk1 hS => ?_)
    try dsimp only at hB
    rw [ht] at hB
    rw [hw9]
    replace hcs : CS D T ad o sc N sf (d + 1 + 1 + 1 + 1) (va_up F2 k1 (chgG (F2 k1) sr 4)) V1 L U H1 := ⟨dr, (chgS (F2 k1) sr 4), _, la, vv, by omega, by omega, (chgS_le hsn), hw.setP hB (fun q h1 h2 => hk1 q h1 h2)⟩
    obtain ⟨F1, hE, hcs⟩ : ∃ x8 : Nat → Nat → Int32, EqF F x8 ∧ CS D T ad o sc N sf (d + 1 + 1 + 1 + 1) x8 V1 L U H1 := ⟨_, hE.trans (op_chg42 hF2 _), hcs⟩
    refine lv_pop hx hb dL_law_1128 rfl ?_
    have hdd : ∀ s8 : SRs, dgG F1 V1 s8 = d0 := fun s8 => (dgG_ext hE (fun k g a b => (hEV k g a b).1) s8 s8).trans (hd0 s8)
    refine lv_aload_n hx hb dL_law_1129 rfl (lv_at hl 4 rfl) ?_
    have hcs8 := hcs
    obtain ⟨dr, sr, C, la, vv, hdr, ho9, hsn, hw⟩ := hcs8
    refine va_calll (va_runV (As := []) (rest := []) ⟨hx, hb, hml, hown, hts⟩ (conX3_digest l D T ad F1 V1 sr C hsn) (cwV 0 hts gL_law_X3_digest rfl rfl rfl (by decide +kernel) ⟨Nat.le_of_ble_eq_true rfl, Nat.le_of_ble_eq_true rfl⟩) (preV hK hw.pl.o rfl hw.pl) rfl rfl hl.1 rfl (lv_room (Nat.le_of_ble_eq_true rfl)) dL_law_1130 ⟨by show _ ≤ 600086; omega, by show _ ≤ 7301442; omega⟩) hS (fun q _ h9 => (by obtain ⟨i9, h8, rfl⟩ := h9; exact hA _ (by have := hw.1 i9 h8; omega))) (fun q h9 => (by obtain ⟨i9, h8, rfl⟩ := h9; exact hA _ (by have := hw.1 i9 h8; omega))) (fun r u t H1 locs1 ht hvm hw9 hB hz1 hk1 hS => ?_)
    try dsimp only at hB
    rw [ht] at hB
    rw [hw9]
    obtain ⟨C9, hB⟩ := hB
    replace hcs : CS D T ad o sc N sf (d + 1 + 1 + 1 + 1) F1 V1 L U H1 := ⟨dr, ((dgA F1 sr 8).2), _, la, vv, by omega, by omega, (dgA_le hsn), hw.setP hB (fun q h1 h2 => hk1 q h1 h2)⟩
    refine lv_lload hx hb dL_law_1133 (lv_at hl 2 rfl) ?_
    refine W.lcmp hx hb dL_law_1135 ?_
    refine lv_if_eq (tgt := 1141) hx hb dL_law_1136 (by decide) (fun c1136 => ?_) (fun c1136 => ?_)
    · skip
      exact kk1141 F1 V1 H1 locs1 ls hS (lv_sub hl [2, 3, 4, 5, 6, 7] rfl) ⟨hE, hEV, hcs⟩
    · skip
      exact absurd (by rw [hdd]; exact lg_z _) c1136
  · skip
    exact absurd (by rw [hdd]; exact lg_z _) c978
