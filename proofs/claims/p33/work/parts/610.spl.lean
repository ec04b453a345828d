/-! THE LAW: the spans of a set -/
set_option maxHeartbeats 40000000 in
set_option maxRecDepth 100000 in
theorem seg_spans {p : Program} {l : Launch} {e : Env} {s : State} {m : MethodId} {args : Array Value} {below : List Frame} {meth : Method} {c : Code} {Q : State → Prop} {D : va_G} {T : Nat → ClassId} {A : Nat → Prop} {H : Heap} {locs : List Loc} {cells slots : Nat} {ls : Array Slot} (hc : LCx p s m args c D T) {ad : Nat → Nat} {o sc N : Nat} {sf : Nat → Int32} (hN : N < 2 ^ 30) (hA : ∀ z : Nat, o ≤ z → A z) (hcm : cells ≤ 600086) (hsm : slots ≤ 7301442) (hS : va_S A s.heap H locs) {d i : Nat} {F V : Nat → Nat → Int32} {L : Nat → SL} {U : Nat → Nat → Int32} {b ti st : Nat} {d0 : Int64} (hd : d < 2 ^ 29) (hi : i < 8) (hcs : CS D T ad o sc N sf d F V L U H) (hl : lv_has ls 17 [(13, .int (nI 0)), (12, .int (-2)), (11, .int (nI 0)), (10, .int (nI 0)), (9, .int (nI ((runs (F i)).1))), (8, .int (nI i)), (7, .int (nI (sumK (fun k => (runs (F k)).1) i))), (5, .long d0), (4, .int (nI st)), (3, .ref (ad 0)), (2, .ref o), (1, .int (nI ti)), (0, .ref b)]) (kk321 : ∀ (H1 : Heap) (locs1 : List Loc) (ls1 : Array Slot), va_S A s.heap H1 locs1 → lv_has ls1 17 [(11, .int (nI (lenL (runs (F i)) (runs (F i)).1))), (10, .int (nI (cntL (runs (F i)) (runs (F i)).1))), (9, .int (nI ((runs (F i)).1))), (8, .int (nI i)), (7, .int (nI (sumK (fun k => (runs (F k)).1) i))), (5, .long d0), (4, .int (nI st)), (3, .ref (ad 0)), (2, .ref o), (1, .int (nI ti)), (0, .ref b)] → CS D T ad o sc N sf d F V L U H1 → W p l e room_1 s m args below meth c H1 locs1 cells slots Q (F0 m 321 ls1 [])) : W p l e room_1 s m args below meth c H locs cells slots Q (F0 m 118 ls []) := by
  obtain ⟨hx, hb, hml, hown, hts, hK⟩ := hc
  have hrl9 := (runs_ok (F i)).1.le
  refine q_for (fun (j : Nat) (H : Heap) (locs : List Loc) (ls : Array Slot) => va_S A s.heap H locs ∧ lv_has ls 17 [(13, .int (nI j)), (12, .int (lastV (runs (F i)) j)), (11, .int (nI (lenL (runs (F i)) j))), (10, .int (nI (cntL (runs (F i)) j))), (9, .int (nI ((runs (F i)).1))), (8, .int (nI i)), (7, .int (nI (sumK (fun k => (runs (F k)).1) i))), (5, .long d0), (4, .int (nI st)), (3, .ref (ad 0)), (2, .ref o), (1, .int (nI ti)), (0, .ref b)] ∧ CS D T ad o sc N sf d F V L U H) (N := ((runs (F i)).1)) 0 (by omega) ?_ ?_ ?_
  · skip
    have e1 : (-2) = lastV (runs (F i)) 0 := by (exact (last_0 _).symm)
    have e2 : nI 0 = nI (lenL (runs (F i)) 0) := by rfl
    have e3 : nI 0 = nI (cntL (runs (F i)) 0) := by rfl
    exact ⟨hS, lv_sub (lv_ex (lv_ex (lv_ex hl 1 rfl (congrArg Value.int e1)) 2 rfl (congrArg Value.int e2)) 3 rfl (congrArg Value.int e3)) [0, 1, 2, 3, 4, 5, 6, 7, 8, 9, 10, 11, 12] rfl, (by exact hcs)⟩
  · skip
    intro j H locs ls hi9_j hin9 hnext_j
    obtain ⟨hS, hl, hcs⟩ := hin9
    refine lv_iload hx hb dL_law_118 (lv_at hl 0 rfl) ?_
    refine lv_iload hx hb dL_law_120 (lv_at hl 4 rfl) ?_
    refine lv_icmp_ge (tgt := 321) hx hb dL_law_122 (by decide) (fun c122 => ?_) (fun c122 => ?_)
    · skip
      have c122 : (runs (F i)).1 ≤ j := (nc_le (a := (runs (F i)).1) (b := j) (by omega) (by omega)).mp c122
      omega
    · skip
      have c122 : ¬ ((runs (F i)).1 ≤ j) := fun q9 => c122 ((nc_le (a := (runs (F i)).1) (b := j) (by omega) (by omega)).mpr q9)
      have hsp9 := runs_sp (F i) (i := j) (by omega)
      have hrn9 := runs_ok (F i)
      refine lv_aload_n hx hb dL_law_125 rfl (lv_at hl 9 rfl) ?_
      refine lv_iload hx hb dL_law_126 (lv_at hl 5 rfl) ?_
      refine lv_iload hx hb dL_law_128 (lv_at hl 0 rfl) ?_
      refine lv_iconst (v := nI 2) hx hb dL_law_130 (by decide) ?_
      have hcs8 := hcs
      obtain ⟨dr, sr, C, la, vv, hdr, ho9, hsn, hw⟩ := hcs8
      refine va_calli (va_runV (As := [.int (nI i), .int (nI j), .int (nI 2)]) (rest := []) ⟨hx, hb, hml, hown, hts⟩ (conX3_ofSpan l D T ad F V sr C i j 2 (by omega) (by omega) (by rw [sp_n]; omega) hsn) (cwV 3 hts gL_law_X3_ofSpan rfl rfl rfl (by decide +kernel) ⟨Nat.le_of_ble_eq_true rfl, Nat.le_of_ble_eq_true rfl⟩) (preV hK hw.pl.o rfl hw.pl) rfl rfl hl.1 rfl (lv_room (Nat.le_of_ble_eq_true rfl)) dL_law_131 ⟨by show _ ≤ 600086; omega, by show _ ≤ 7301442; omega⟩) hS (fun q _ h9 => (by obtain ⟨i9, h8, rfl⟩ := h9; exact hA _ (by have := hw.1 i9 h8; omega))) (fun q h9 => (by obtain ⟨i9, h8, rfl⟩ := h9; exact hA _ (by have := hw.1 i9 h8; omega))) (fun r u t H1 locs1 ht hvm hw9 hB hz1 hk1 hS => ?_)
      try dsimp only at hB
      rw [ht] at hB
      rw [hw9]
      replace hcs : CS D T ad o sc N sf (d) F V L U H1 := ⟨dr, (rrR (F i) (nI 1) sr 201), _, la, vv, by omega, by omega, (rrR_le _ _ _ _), hw.setP hB (fun q h1 h2 => hk1 q h1 h2)⟩
      rw [sp_f2 (F i) sr (by omega)]
      refine lv_istore (lv' := [(14, .int (nI (1 - ((runs (F i)).2.1 j) % 2 + 2 * (1 - ((runs (F i)).2.2 j) % 2)))), (13, .int (nI j)), (12, .int (lastV (runs (F i)) j)), (11, .int (nI (lenL (runs (F i)) j))), (10, .int (nI (cntL (runs (F i)) j))), (9, .int (nI ((runs (F i)).1))), (8, .int (nI i)), (7, .int (nI (sumK (fun k => (runs (F k)).1) i))), (5, .long d0), (4, .int (nI st)), (3, .ref (ad 0)), (2, .ref o), (1, .int (nI ti)), (0, .ref b)]) hx hb dL_law_134 hl (by decide) rfl (fun ls hl => ?_)
      refine lv_iconst (v := nI 2) hx hb dL_law_136 (by decide) ?_
      refine lv_aload_n hx hb dL_law_137 rfl (lv_at hl 10 rfl) ?_
      refine lv_iload hx hb dL_law_138 (lv_at hl 6 rfl) ?_
      refine lv_iload hx hb dL_law_140 (lv_at hl 1 rfl) ?_
      refine lv_iconst (v := nI 0) hx hb dL_law_142 (by decide) ?_
      have hcs8 := hcs
      obtain ⟨dr, sr, C, la, vv, hdr, ho9, hsn, hw⟩ := hcs8
      refine va_calli (va_runV (As := [.int (nI i), .int (nI j), .int (nI 0)]) (rest := [.int (nI 2)]) ⟨hx, hb, hml, hown, hts⟩ (conX3_ofSpan l D T ad F V sr C i j 0 (by omega) (by omega) (by rw [sp_n]; omega) hsn) (cwV 3 hts gL_law_X3_ofSpan rfl rfl rfl (by decide +kernel) ⟨Nat.le_of_ble_eq_true rfl, Nat.le_of_ble_eq_true rfl⟩) (preV hK hw.pl.o rfl hw.pl) rfl rfl hl.1 rfl (lv_room (Nat.le_of_ble_eq_true rfl)) dL_law_143 ⟨by show _ ≤ 600086; omega, by show _ ≤ 7301442; omega⟩) hS (fun q _ h9 => (by obtain ⟨i9, h8, rfl⟩ := h9; exact hA _ (by have := hw.1 i9 h8; omega))) (fun q h9 => (by obtain ⟨i9, h8, rfl⟩ := h9; exact hA _ (by have := hw.1 i9 h8; omega))) (fun r u t H1 locs1 ht hvm hw9 hB hz1 hk1 hS => ?_)
      try dsimp only at hB
      rw [ht] at hB
      rw [hw9]
      replace hcs : CS D T ad o sc N sf (d) F V L U H1 := ⟨dr, (rrR (F i) (nI 1) sr 201), _, la, vv, by omega, by omega, (rrR_le _ _ _ _), hw.setP hB (fun q h1 h2 => hk1 q h1 h2)⟩
      rw [sp_f0 (F i) sr (by omega)]
      refine lv_imul hx hb dL_law_146 ?_
      rw [pk_mul]
      refine lv_iconst (v := nI 1) hx hb dL_law_147 (by decide) ?_
      refine lv_iadd hx hb dL_law_148 ?_
      rw [nI_add]
      refine lv_iload hx hb dL_law_149 (lv_at hl 0 rfl) ?_
      refine lv_iconst (v := nI 2) hx hb dL_law_151 (by decide) ?_
      refine lv_irem hx hb dL_law_152 (by decide) ?_
      rw [pk_rem (a := 1 - ((runs (F i)).2.1 j) % 2 + 2 * (1 - ((runs (F i)).2.2 j) % 2)) (d := 2) (by omega) (by omega) (by omega)]
      refine lv_isub hx hb dL_law_153 ?_
      rw [pk_sub (a := (2 * (((runs (F i)).2.1 j) / 2)) + 1) (b := (1 - ((runs (F i)).2.1 j) % 2 + 2 * (1 - ((runs (F i)).2.2 j) % 2)) % 2) (by omega)]
      refine W.eq (congrArg (fun z9 => F0 m 154 ls [.int (nI z9)]) (sp_from)) ?_
      refine W.eq (g2 := F0 m 154 ls [.int (nI ((runs (F i)).2.1 j))]) rfl ?_
      refine lv_istore (lv' := [(15, .int (nI ((runs (F i)).2.1 j))), (14, .int (nI (1 - ((runs (F i)).2.1 j) % 2 + 2 * (1 - ((runs (F i)).2.2 j) % 2)))), (13, .int (nI j)), (12, .int (lastV (runs (F i)) j)), (11, .int (nI (lenL (runs (F i)) j))), (10, .int (nI (cntL (runs (F i)) j))), (9, .int (nI ((runs (F i)).1))), (8, .int (nI i)), (7, .int (nI (sumK (fun k => (runs (F k)).1) i))), (5, .long d0), (4, .int (nI st)), (3, .ref (ad 0)), (2, .ref o), (1, .int (nI ti)), (0, .ref b)]) hx hb dL_law_154 hl (by decide) rfl (fun ls hl => ?_)
      refine lv_iconst (v := nI 2) hx hb dL_law_156 (by decide) ?_
      refine lv_aload_n hx hb dL_law_157 rfl (lv_at hl 11 rfl) ?_
      refine lv_iload hx hb dL_law_158 (lv_at hl 7 rfl) ?_
      refine lv_iload hx hb dL_law_160 (lv_at hl 2 rfl) ?_
      refine lv_iconst (v := nI 1) hx hb dL_law_162 (by decide) ?_
      have hcs8 := hcs
      obtain ⟨dr, sr, C, la, vv, hdr, ho9, hsn, hw⟩ := hcs8
      refine va_calli (va_runV (As := [.int (nI i), .int (nI j), .int (nI 1)]) (rest := [.int (nI 2)]) ⟨hx, hb, hml, hown, hts⟩ (conX3_ofSpan l D T ad F V sr C i j 1 (by omega) (by omega) (by rw [sp_n]; omega) hsn) (cwV 3 hts gL_law_X3_ofSpan rfl rfl rfl (by decide +kernel) ⟨Nat.le_of_ble_eq_true rfl, Nat.le_of_ble_eq_true rfl⟩) (preV hK hw.pl.o rfl hw.pl) rfl rfl hl.1 rfl (lv_room (Nat.le_of_ble_eq_true rfl)) dL_law_163 ⟨by show _ ≤ 600086; omega, by show _ ≤ 7301442; omega⟩) hS (fun q _ h9 => (by obtain ⟨i9, h8, rfl⟩ := h9; exact hA _ (by have := hw.1 i9 h8; omega))) (fun q h9 => (by obtain ⟨i9, h8, rfl⟩ := h9; exact hA _ (by have := hw.1 i9 h8; omega))) (fun r u t H1 locs1 ht hvm hw9 hB hz1 hk1 hS => ?_)
      try dsimp only at hB
      rw [ht] at hB
      rw [hw9]
      replace hcs : CS D T ad o sc N sf (d) F V L U H1 := ⟨dr, (rrR (F i) (nI 1) sr 201), _, la, vv, by omega, by omega, (rrR_le _ _ _ _), hw.setP hB (fun q h1 h2 => hk1 q h1 h2)⟩
      rw [sp_f1 (F i) sr (by omega)]
      refine lv_imul hx hb dL_law_166 ?_
      rw [pk_mul]
      refine lv_iconst (v := nI 1) hx hb dL_law_167 (by decide) ?_
      refine lv_isub hx hb dL_law_168 ?_
      refine lv_iload hx hb dL_law_169 (lv_at hl 1 rfl) ?_
      refine lv_iconst (v := nI 2) hx hb dL_law_171 (by decide) ?_
      refine lv_idiv hx hb dL_law_172 (by decide) ?_
      rw [pk_div (a := 1 - ((runs (F i)).2.1 j) % 2 + 2 * (1 - ((runs (F i)).2.2 j) % 2)) (d := 2) (by omega) (by omega) (by omega)]
      refine lv_iadd hx hb dL_law_173 ?_
      refine W.eq (congrArg (fun z9 => F0 m 174 ls [.int z9]) (sp_to (by omega))) ?_
      refine W.eq (g2 := F0 m 174 ls [.int (nI ((runs (F i)).2.2 j))]) rfl ?_
      refine lv_istore (lv' := [(16, .int (nI ((runs (F i)).2.2 j))), (15, .int (nI ((runs (F i)).2.1 j))), (14, .int (nI (1 - ((runs (F i)).2.1 j) % 2 + 2 * (1 - ((runs (F i)).2.2 j) % 2)))), (13, .int (nI j)), (12, .int (lastV (runs (F i)) j)), (11, .int (nI (lenL (runs (F i)) j))), (10, .int (nI (cntL (runs (F i)) j))), (9, .int (nI ((runs (F i)).1))), (8, .int (nI i)), (7, .int (nI (sumK (fun k => (runs (F k)).1) i))), (5, .long d0), (4, .int (nI st)), (3, .ref (ad 0)), (2, .ref o), (1, .int (nI ti)), (0, .ref b)]) hx hb dL_law_174 hl (by decide) rfl (fun ls hl => ?_)
      refine lv_iload hx hb dL_law_176 (lv_at hl 1 rfl) ?_
      refine lv_iload hx hb dL_law_178 (lv_at hl 0 rfl) ?_
      refine lv_icmp_gt (tgt := 273) hx hb dL_law_180 (by decide) (fun c180 => ?_) (fun c180 => ?_)
      · skip
        have c180 : (runs (F i)).2.2 j < (runs (F i)).2.1 j := (nc_lt (a := (runs (F i)).2.2 j) (b := (runs (F i)).2.1 j) (by omega) (by omega)).mp c180
        omega
      · skip
        have c180 : ¬ ((runs (F i)).2.2 j < (runs (F i)).2.1 j) := fun q9 => c180 ((nc_lt (a := (runs (F i)).2.2 j) (b := (runs (F i)).2.1 j) (by omega) (by omega)).mpr q9)
        refine lv_iload hx hb dL_law_183 (lv_at hl 1 rfl) ?_
        refine lv_iload hx hb dL_law_185 (lv_at hl 4 rfl) ?_
        refine lv_iconst (v := nI 2) hx hb dL_law_187 (by decide) ?_
        refine lv_iadd hx hb dL_law_188 ?_
        refine lv_icmp_lt (tgt := 273) hx hb dL_law_189 (by decide) (fun c189 => ?_) (fun c189 => ?_)
        · skip
          exact absurd c189 (last_ok hrn9 (by omega))
        · skip
          refine lv_iload hx hb dL_law_192 (lv_at hl 0 rfl) ?_
          refine lv_sipush (v := nI 200) hx hb dL_law_194 (by decide) ?_
          refine lv_icmp_gt (tgt := 273) hx hb dL_law_197 (by decide) (fun c197 => ?_) (fun c197 => ?_)
          · skip
            have c197 : 200 < (runs (F i)).2.2 j := (nc_lt (a := 200) (b := (runs (F i)).2.2 j) (by omega) (by omega)).mp c197
            omega
          · skip
            have c197 : ¬ (200 < (runs (F i)).2.2 j) := fun q9 => c197 ((nc_lt (a := 200) (b := (runs (F i)).2.2 j) (by omega) (by omega)).mpr q9)
            refine lv_aload_n hx hb dL_law_200 rfl (lv_at hl 12 rfl) ?_
            refine lv_iload hx hb dL_law_201 (lv_at hl 8 rfl) ?_
            refine lv_iload hx hb dL_law_203 (lv_at hl 1 rfl) ?_
            have hcs8 := hcs
            obtain ⟨dr, sr, C, la, vv, hdr, ho9, hsn, hw⟩ := hcs8
            refine vp_callSi (va_runV (As := [.int (nI i), .int (nI ((runs (F i)).2.1 j))]) (rest := []) ⟨hx, hb, hml, hown, hts⟩ (conX3_has l D T ad F V sr C i ((runs (F i)).2.1 j) (by omega) (by omega)) (cwV 2 hts gL_law_X3_has rfl rfl rfl (by decide +kernel) ⟨Nat.le_of_ble_eq_true rfl, Nat.le_of_ble_eq_true rfl⟩) (preV hK hw.pl.o rfl hw.pl) rfl rfl hl.1 rfl (lv_room (Nat.le_of_ble_eq_true rfl)) dL_law_205 ⟨by show _ ≤ 600086; omega, by show _ ≤ 7301442; omega⟩).run (fun r4 hr4 => ?_)
            rw [hr4]
            rw [hold_1 (hrn9.start (by omega)).1]
            refine lv_if_eq (tgt := 273) hx hb dL_law_208 (by decide) (fun c208 => ?_) (fun c208 => ?_)
            · skip
              have c208 : 1 = 0 := (nc_eq (a := 1) (b := 0) (by omega) (by omega)).mp c208
              omega
            · skip
              have c208 : ¬ (1 = 0) := fun q9 => c208 ((nc_eq (a := 1) (b := 0) (by omega) (by omega)).mpr q9)
              refine lv_aload_n hx hb dL_law_211 rfl (lv_at hl 12 rfl) ?_
              refine lv_iload hx hb dL_law_212 (lv_at hl 8 rfl) ?_
              refine lv_iload hx hb dL_law_214 (lv_at hl 0 rfl) ?_
              have hcs8 := hcs
              obtain ⟨dr, sr, C, la, vv, hdr, ho9, hsn, hw⟩ := hcs8
              refine vp_callSi (va_runV (As := [.int (nI i), .int (nI ((runs (F i)).2.2 j))]) (rest := []) ⟨hx, hb, hml, hown, hts⟩ (conX3_has l D T ad F V sr C i ((runs (F i)).2.2 j) (by omega) (by omega)) (cwV 2 hts gL_law_X3_has rfl rfl rfl (by decide +kernel) ⟨Nat.le_of_ble_eq_true rfl, Nat.le_of_ble_eq_true rfl⟩) (preV hK hw.pl.o rfl hw.pl) rfl rfl hl.1 rfl (lv_room (Nat.le_of_ble_eq_true rfl)) dL_law_216 ⟨by show _ ≤ 600086; omega, by show _ ≤ 7301442; omega⟩).run (fun r5 hr5 => ?_)
              rw [hr5]
              rw [hold_1 (hrn9.stop (by omega)).1]
              refine lv_if_eq (tgt := 273) hx hb dL_law_219 (by decide) (fun c219 => ?_) (fun c219 => ?_)
              · skip
                have c219 : 1 = 0 := (nc_eq (a := 1) (b := 0) (by omega) (by omega)).mp c219
                omega
              · skip
                have c219 : ¬ (1 = 0) := fun q9 => c219 ((nc_eq (a := 1) (b := 0) (by omega) (by omega)).mpr q9)
                refine lv_aload_n hx hb dL_law_222 rfl (lv_at hl 12 rfl) ?_
                refine lv_iload hx hb dL_law_223 (lv_at hl 8 rfl) ?_
                refine lv_iload hx hb dL_law_225 (lv_at hl 1 rfl) ?_
                have hcs8 := hcs
                obtain ⟨dr, sr, C, la, vv, hdr, ho9, hsn, hw⟩ := hcs8
                refine vp_callSi (va_runV (As := [.int (nI i), .int (nI ((runs (F i)).2.1 j))]) (rest := []) ⟨hx, hb, hml, hown, hts⟩ (conX3_far l D T ad F V sr C i ((runs (F i)).2.1 j) (by omega) (by omega)) (cwV 2 hts gL_law_X3_far rfl rfl rfl (by decide +kernel) ⟨Nat.le_of_ble_eq_true rfl, Nat.le_of_ble_eq_true rfl⟩) (preV hK hw.pl.o rfl hw.pl) rfl rfl hl.1 rfl (lv_room (Nat.le_of_ble_eq_true rfl)) dL_law_227 ⟨by show _ ≤ 600086; omega, by show _ ≤ 7301442; omega⟩).run (fun r6 hr6 => ?_)
                obtain rfl : r6 = nI 0 := far_0 hr6 (hrn9.start (by omega)).1
                refine lv_if_ne (tgt := 273) hx hb dL_law_230 (by decide) (fun c230 => ?_) (fun c230 => ?_)
                · skip
                  have c230 : ¬ (0 = 0) := fun q9 => c230 ((nc_eq (a := 0) (b := 0) (by omega) (by omega)).mpr q9)
                  omega
                · skip
                  have c230 : 0 = 0 := (nc_eq (a := 0) (b := 0) (by omega) (by omega)).mp c230
                  refine lv_iload hx hb dL_law_233 (lv_at hl 0 rfl) ?_
                  refine lv_sipush (v := nI 200) hx hb dL_law_235 (by decide) ?_
                  refine lv_icmp_ge (tgt := 255) hx hb dL_law_238 (by decide) (fun c238 => ?_) (fun c238 => ?_)
                  · skip
                    have c238 : 200 ≤ (runs (F i)).2.2 j := (nc_le (a := 200) (b := (runs (F i)).2.2 j) (by omega) (by omega)).mp c238
                    refine lv_iload hx hb dL_law_255 (lv_at hl 1 rfl) ?_
                    refine lv_if_le (tgt := 275) hx hb dL_law_257 (by decide) (fun c257 => ?_) (fun c257 => ?_)
                    · skip
                      have c257 : (runs (F i)).2.1 j ≤ 0 := (nc_le (a := (runs (F i)).2.1 j) (b := 0) (by omega) (by omega)).mp c257
                      refine lv_iload hx hb dL_law_275 (lv_at hl 0 rfl) ?_
                      refine lv_istore (lv' := [(12, .int (nI ((runs (F i)).2.2 j))), (16, .int (nI ((runs (F i)).2.2 j))), (15, .int (nI ((runs (F i)).2.1 j))), (14, .int (nI (1 - ((runs (F i)).2.1 j) % 2 + 2 * (1 - ((runs (F i)).2.2 j) % 2)))), (13, .int (nI j)), (11, .int (nI (lenL (runs (F i)) j))), (10, .int (nI (cntL (runs (F i)) j))), (9, .int (nI ((runs (F i)).1))), (8, .int (nI i)), (7, .int (nI (sumK (fun k => (runs (F k)).1) i))), (5, .long d0), (4, .int (nI st)), (3, .ref (ad 0)), (2, .ref o), (1, .int (nI ti)), (0, .ref b)]) hx hb dL_law_277 hl (by decide) rfl (fun ls hl => ?_)
                      refine lv_iload hx hb dL_law_279 (lv_at hl 6 rfl) ?_
                      refine lv_iload hx hb dL_law_281 (lv_at hl 1 rfl) ?_
                      refine lv_iload hx hb dL_law_283 (lv_at hl 2 rfl) ?_
                      refine lv_isub hx hb dL_law_285 ?_
                      rw [pk_sub (a := (runs (F i)).2.2 j) (b := (runs (F i)).2.1 j) (by omega)]
                      refine lv_iconst (v := nI 1) hx hb dL_law_286 (by decide) ?_
                      refine lv_iadd hx hb dL_law_287 ?_
                      rw [nI_add]
                      refine lv_iadd hx hb dL_law_288 ?_
                      rw [nI_add]
                      refine lv_istore (lv' := [(10, .int (nI ((cntL (runs (F i)) j) + ((((runs (F i)).2.2 j) - ((runs (F i)).2.1 j)) + 1)))), (12, .int (nI ((runs (F i)).2.2 j))), (16, .int (nI ((runs (F i)).2.2 j))), (15, .int (nI ((runs (F i)).2.1 j))), (14, .int (nI (1 - ((runs (F i)).2.1 j) % 2 + 2 * (1 - ((runs (F i)).2.2 j) % 2)))), (13, .int (nI j)), (11, .int (nI (lenL (runs (F i)) j))), (9, .int (nI ((runs (F i)).1))), (8, .int (nI i)), (7, .int (nI (sumK (fun k => (runs (F k)).1) i))), (5, .long d0), (4, .int (nI st)), (3, .ref (ad 0)), (2, .ref o), (1, .int (nI ti)), (0, .ref b)]) hx hb dL_law_289 hl (by decide) rfl (fun ls hl => ?_)
                      refine lv_iload hx hb dL_law_291 (lv_at hl 6 rfl) ?_
                      refine lv_aload_n hx hb dL_law_293 rfl (lv_at hl 12 rfl) ?_
                      refine lv_iload hx hb dL_law_294 (lv_at hl 8 rfl) ?_
                      refine lv_iload hx hb dL_law_296 (lv_at hl 5 rfl) ?_
                      refine lv_iconst (v := nI 1) hx hb dL_law_298 (by decide) ?_
                      have hcs8 := hcs
                      obtain ⟨dr, sr, C, la, vv, hdr, ho9, hsn, hw⟩ := hcs8
                      refine va_calli (va_runV (As := [.int (nI i), .int (nI j), .int (nI 1)]) (rest := [.int (nI (lenL (runs (F i)) j))]) ⟨hx, hb, hml, hown, hts⟩ (conX3_ofSpan l D T ad F V sr C i j 1 (by omega) (by omega) (by rw [sp_n]; omega) hsn) (cwV 3 hts gL_law_X3_ofSpan rfl rfl rfl (by decide +kernel) ⟨Nat.le_of_ble_eq_true rfl, Nat.le_of_ble_eq_true rfl⟩) (preV hK hw.pl.o rfl hw.pl) rfl rfl hl.1 rfl (lv_room (Nat.le_of_ble_eq_true rfl)) dL_law_299 ⟨by show _ ≤ 600086; omega, by show _ ≤ 7301442; omega⟩) hS (fun q _ h9 => (by obtain ⟨i9, h8, rfl⟩ := h9; exact hA _ (by have := hw.1 i9 h8; omega))) (fun q h9 => (by obtain ⟨i9, h8, rfl⟩ := h9; exact hA _ (by have := hw.1 i9 h8; omega))) (fun r u t H1 locs1 ht hvm hw9 hB hz1 hk1 hS => ?_)
                      try dsimp only at hB
                      rw [ht] at hB
                      rw [hw9]
                      replace hcs : CS D T ad o sc N sf (d) F V L U H1 := ⟨dr, (rrR (F i) (nI 1) sr 201), _, la, vv, by omega, by omega, (rrR_le _ _ _ _), hw.setP hB (fun q h1 h2 => hk1 q h1 h2)⟩
                      rw [sp_f1 (F i) sr (by omega)]
                      refine lv_aload_n hx hb dL_law_302 rfl (lv_at hl 12 rfl) ?_
                      refine lv_iload hx hb dL_law_303 (lv_at hl 8 rfl) ?_
                      refine lv_iload hx hb dL_law_305 (lv_at hl 5 rfl) ?_
                      refine lv_iconst (v := nI 0) hx hb dL_law_307 (by decide) ?_
                      have hcs8 := hcs
                      obtain ⟨dr, sr, C, la, vv, hdr, ho9, hsn, hw⟩ := hcs8
                      refine va_calli (va_runV (As := [.int (nI i), .int (nI j), .int (nI 0)]) (rest := [.int (nI (((runs (F i)).2.2 j + 1) / 2)), .int (nI (lenL (runs (F i)) j))]) ⟨hx, hb, hml, hown, hts⟩ (conX3_ofSpan l D T ad F V sr C i j 0 (by omega) (by omega) (by rw [sp_n]; omega) hsn) (cwV 3 hts gL_law_X3_ofSpan rfl rfl rfl (by decide +kernel) ⟨Nat.le_of_ble_eq_true rfl, Nat.le_of_ble_eq_true rfl⟩) (preV hK hw.pl.o rfl hw.pl) rfl rfl hl.1 rfl (lv_room (Nat.le_of_ble_eq_true rfl)) dL_law_308 ⟨by show _ ≤ 600086; omega, by show _ ≤ 7301442; omega⟩) hS (fun q _ h9 => (by obtain ⟨i9, h8, rfl⟩ := h9; exact hA _ (by have := hw.1 i9 h8; omega))) (fun q h9 => (by obtain ⟨i9, h8, rfl⟩ := h9; exact hA _ (by have := hw.1 i9 h8; omega))) (fun r u t H1 locs1 ht hvm hw9 hB hz1 hk1 hS => ?_)
                      try dsimp only at hB
                      rw [ht] at hB
                      rw [hw9]
                      replace hcs : CS D T ad o sc N sf (d) F V L U H1 := ⟨dr, (rrR (F i) (nI 1) sr 201), _, la, vv, by omega, by omega, (rrR_le _ _ _ _), hw.setP hB (fun q h1 h2 => hk1 q h1 h2)⟩
                      rw [sp_f0 (F i) sr (by omega)]
                      refine lv_isub hx hb dL_law_311 ?_
                      rw [pk_sub (a := ((runs (F i)).2.2 j + 1) / 2) (b := ((runs (F i)).2.1 j) / 2) (by omega)]
                      refine lv_iadd hx hb dL_law_312 ?_
                      rw [nI_add]
                      refine lv_istore (lv' := [(11, .int (nI ((lenL (runs (F i)) j) + ((((runs (F i)).2.2 j + 1) / 2) - (((runs (F i)).2.1 j) / 2))))), (10, .int (nI ((cntL (runs (F i)) j) + ((((runs (F i)).2.2 j) - ((runs (F i)).2.1 j)) + 1)))), (12, .int (nI ((runs (F i)).2.2 j))), (16, .int (nI ((runs (F i)).2.2 j))), (15, .int (nI ((runs (F i)).2.1 j))), (14, .int (nI (1 - ((runs (F i)).2.1 j) % 2 + 2 * (1 - ((runs (F i)).2.2 j) % 2)))), (13, .int (nI j)), (9, .int (nI ((runs (F i)).1))), (8, .int (nI i)), (7, .int (nI (sumK (fun k => (runs (F k)).1) i))), (5, .long d0), (4, .int (nI st)), (3, .ref (ad 0)), (2, .ref o), (1, .int (nI ti)), (0, .ref b)]) hx hb dL_law_313 hl (by decide) rfl (fun ls hl => ?_)
                      refine lv_iinc (v := nI (j + 1)) (lv' := [(13, .int (nI (j + 1))), (11, .int (nI ((lenL (runs (F i)) j) + ((((runs (F i)).2.2 j + 1) / 2) - (((runs (F i)).2.1 j) / 2))))), (10, .int (nI ((cntL (runs (F i)) j) + ((((runs (F i)).2.2 j) - ((runs (F i)).2.1 j)) + 1)))), (12, .int (nI ((runs (F i)).2.2 j))), (16, .int (nI ((runs (F i)).2.2 j))), (15, .int (nI ((runs (F i)).2.1 j))), (14, .int (nI (1 - ((runs (F i)).2.1 j) % 2 + 2 * (1 - ((runs (F i)).2.2 j) % 2)))), (9, .int (nI ((runs (F i)).1))), (8, .int (nI i)), (7, .int (nI (sumK (fun k => (runs (F k)).1) i))), (5, .long d0), (4, .int (nI st)), (3, .ref (ad 0)), (2, .ref o), (1, .int (nI ti)), (0, .ref b)]) hx hb dL_law_315 hl (k := 6) rfl (inc_1 _) (by decide) rfl (fun ls hl => ?_)
                      refine lv_goto (tgt := 118) hx hb dL_law_318 (by decide) ?_
                      have e7 : nI ((runs (F i)).2.2 j) = lastV (runs (F i)) (j + 1) := by (exact (last_s _ _).symm)
                      have e8 : nI ((lenL (runs (F i)) j) + ((((runs (F i)).2.2 j + 1) / 2) - (((runs (F i)).2.1 j) / 2))) = nI (lenL (runs (F i)) (j + 1)) := by (exact congrArg nI (lenL_s _ _).symm)
                      have e9 : nI ((cntL (runs (F i)) j) + ((((runs (F i)).2.2 j) - ((runs (F i)).2.1 j)) + 1)) = nI (cntL (runs (F i)) (j + 1)) := by (exact congrArg nI (cntL_s _ _).symm)
                      exact hnext_j _ _ _ ⟨hS, lv_sub (lv_ex (lv_ex (lv_ex hl 3 rfl (congrArg Value.int e7)) 1 rfl (congrArg Value.int e8)) 2 rfl (congrArg Value.int e9)) [0, 3, 1, 2, 7, 8, 9, 10, 11, 12, 13, 14, 15] rfl, (by exact hcs)⟩
                    · skip
                      have c257 : ¬ ((runs (F i)).2.1 j ≤ 0) := fun q9 => c257 ((nc_le (a := (runs (F i)).2.1 j) (b := 0) (by omega) (by omega)).mpr q9)
                      refine lv_aload_n hx hb dL_law_260 rfl (lv_at hl 12 rfl) ?_
                      refine lv_iload hx hb dL_law_261 (lv_at hl 8 rfl) ?_
                      refine lv_iload hx hb dL_law_263 (lv_at hl 1 rfl) ?_
                      refine lv_iconst (v := nI 1) hx hb dL_law_265 (by decide) ?_
                      refine lv_isub hx hb dL_law_266 ?_
                      rw [pk_sub (a := (runs (F i)).2.1 j) (b := 1) (by omega)]
                      have hcs8 := hcs
                      obtain ⟨dr, sr, C, la, vv, hdr, ho9, hsn, hw⟩ := hcs8
                      refine vp_callSi (va_runV (As := [.int (nI i), .int (nI (((runs (F i)).2.1 j) - 1))]) (rest := []) ⟨hx, hb, hml, hown, hts⟩ (conX3_has l D T ad F V sr C i (((runs (F i)).2.1 j) - 1) (by omega) (by omega)) (cwV 2 hts gL_law_X3_has rfl rfl rfl (by decide +kernel) ⟨Nat.le_of_ble_eq_true rfl, Nat.le_of_ble_eq_true rfl⟩) (preV hK hw.pl.o rfl hw.pl) rfl rfl hl.1 rfl (lv_room (Nat.le_of_ble_eq_true rfl)) dL_law_267 ⟨by show _ ≤ 600086; omega, by show _ ≤ 7301442; omega⟩).run (fun r10 hr10 => ?_)
                      rw [hr10]
                      rw [hold_0 (hrn9.prv (by omega) (by omega))]
                      refine lv_if_eq (tgt := 275) hx hb dL_law_270 (by decide) (fun c270 => ?_) (fun c270 => ?_)
                      · skip
                        have c270 : 0 = 0 := (nc_eq (a := 0) (b := 0) (by omega) (by omega)).mp c270
                        refine lv_iload hx hb dL_law_275 (lv_at hl 0 rfl) ?_
                        refine lv_istore (lv' := [(12, .int (nI ((runs (F i)).2.2 j))), (16, .int (nI ((runs (F i)).2.2 j))), (15, .int (nI ((runs (F i)).2.1 j))), (14, .int (nI (1 - ((runs (F i)).2.1 j) % 2 + 2 * (1 - ((runs (F i)).2.2 j) % 2)))), (13, .int (nI j)), (11, .int (nI (lenL (runs (F i)) j))), (10, .int (nI (cntL (runs (F i)) j))), (9, .int (nI ((runs (F i)).1))), (8, .int (nI i)), (7, .int (nI (sumK (fun k => (runs (F k)).1) i))), (5, .long d0), (4, .int (nI st)), (3, .ref (ad 0)), (2, .ref o), (1, .int (nI ti)), (0, .ref b)]) hx hb dL_law_277 hl (by decide) rfl (fun ls hl => ?_)
                        refine lv_iload hx hb dL_law_279 (lv_at hl 6 rfl) ?_
                        refine lv_iload hx hb dL_law_281 (lv_at hl 1 rfl) ?_
                        refine lv_iload hx hb dL_law_283 (lv_at hl 2 rfl) ?_
                        refine lv_isub hx hb dL_law_285 ?_
                        rw [pk_sub (a := (runs (F i)).2.2 j) (b := (runs (F i)).2.1 j) (by omega)]
                        refine lv_iconst (v := nI 1) hx hb dL_law_286 (by decide) ?_
                        refine lv_iadd hx hb dL_law_287 ?_
                        rw [nI_add]
                        refine lv_iadd hx hb dL_law_288 ?_
                        rw [nI_add]
                        refine lv_istore (lv' := [(10, .int (nI ((cntL (runs (F i)) j) + ((((runs (F i)).2.2 j) - ((runs (F i)).2.1 j)) + 1)))), (12, .int (nI ((runs (F i)).2.2 j))), (16, .int (nI ((runs (F i)).2.2 j))), (15, .int (nI ((runs (F i)).2.1 j))), (14, .int (nI (1 - ((runs (F i)).2.1 j) % 2 + 2 * (1 - ((runs (F i)).2.2 j) % 2)))), (13, .int (nI j)), (11, .int (nI (lenL (runs (F i)) j))), (9, .int (nI ((runs (F i)).1))), (8, .int (nI i)), (7, .int (nI (sumK (fun k => (runs (F k)).1) i))), (5, .long d0), (4, .int (nI st)), (3, .ref (ad 0)), (2, .ref o), (1, .int (nI ti)), (0, .ref b)]) hx hb dL_law_289 hl (by decide) rfl (fun ls hl => ?_)
                        refine lv_iload hx hb dL_law_291 (lv_at hl 6 rfl) ?_
                        refine lv_aload_n hx hb dL_law_293 rfl (lv_at hl 12 rfl) ?_
                        refine lv_iload hx hb dL_law_294 (lv_at hl 8 rfl) ?_
                        refine lv_iload hx hb dL_law_296 (lv_at hl 5 rfl) ?_
                        refine lv_iconst (v := nI 1) hx hb dL_law_298 (by decide) ?_
                        have hcs8 := hcs
                        obtain ⟨dr, sr, C, la, vv, hdr, ho9, hsn, hw⟩ := hcs8
                        refine va_calli (va_runV (As := [.int (nI i), .int (nI j), .int (nI 1)]) (rest := [.int (nI (lenL (runs (F i)) j))]) ⟨hx, hb, hml, hown, hts⟩ (conX3_ofSpan l D T ad F V sr C i j 1 (by omega) (by omega) (by rw [sp_n]; omega) hsn) (cwV 3 hts gL_law_X3_ofSpan rfl rfl rfl (by decide +kernel) ⟨Nat.le_of_ble_eq_true rfl, Nat.le_of_ble_eq_true rfl⟩) (preV hK hw.pl.o rfl hw.pl) rfl rfl hl.1 rfl (lv_room (Nat.le_of_ble_eq_true rfl)) dL_law_299 ⟨by show _ ≤ 600086; omega, by show _ ≤ 7301442; omega⟩) hS (fun q _ h9 => (by obtain ⟨i9, h8, rfl⟩ := h9; exact hA _ (by have := hw.1 i9 h8; omega))) (fun q h9 => (by obtain ⟨i9, h8, rfl⟩ := h9; exact hA _ (by have := hw.1 i9 h8; omega))) (fun r u t H1 locs1 ht hvm hw9 hB hz1 hk1 hS => ?_)
                        try dsimp only at hB
                        rw [ht] at hB
                        rw [hw9]
                        replace hcs : CS D T ad o sc N sf (d) F V L U H1 := ⟨dr, (rrR (F i) (nI 1) sr 201), _, la, vv, by omega, by omega, (rrR_le _ _ _ _), hw.setP hB (fun q h1 h2 => hk1 q h1 h2)⟩
                        rw [sp_f1 (F i) sr (by omega)]
                        refine lv_aload_n hx hb dL_law_302 rfl (lv_at hl 12 rfl) ?_
                        refine lv_iload hx hb dL_law_303 (lv_at hl 8 rfl) ?_
                        refine lv_iload hx hb dL_law_305 (lv_at hl 5 rfl) ?_
                        refine lv_iconst (v := nI 0) hx hb dL_law_307 (by decide) ?_
                        have hcs8 := hcs
                        obtain ⟨dr, sr, C, la, vv, hdr, ho9, hsn, hw⟩ := hcs8
                        refine va_calli (va_runV (As := [.int (nI i), .int (nI j), .int (nI 0)]) (rest := [.int (nI (((runs (F i)).2.2 j + 1) / 2)), .int (nI (lenL (runs (F i)) j))]) ⟨hx, hb, hml, hown, hts⟩ (conX3_ofSpan l D T ad F V sr C i j 0 (by omega) (by omega) (by rw [sp_n]; omega) hsn) (cwV 3 hts gL_law_X3_ofSpan rfl rfl rfl (by decide +kernel) ⟨Nat.le_of_ble_eq_true rfl, Nat.le_of_ble_eq_true rfl⟩) (preV hK hw.pl.o rfl hw.pl) rfl rfl hl.1 rfl (lv_room (Nat.le_of_ble_eq_true rfl)) dL_law_308 ⟨by show _ ≤ 600086; omega, by show _ ≤ 7301442; omega⟩) hS (fun q _ h9 => (by obtain ⟨i9, h8, rfl⟩ := h9; exact hA _ (by have := hw.1 i9 h8; omega))) (fun q h9 => (by obtain ⟨i9, h8, rfl⟩ := h9; exact hA _ (by have := hw.1 i9 h8; omega))) (fun r u t H1 locs1 ht hvm hw9 hB hz1 hk1 hS => ?_)
                        try dsimp only at hB
                        rw [ht] at hB
                        rw [hw9]
                        replace hcs : CS D T ad o sc N sf (d) F V L U H1 := ⟨dr, (rrR (F i) (nI 1) sr 201), _, la, vv, by omega, by omega, (rrR_le _ _ _ _), hw.setP hB (fun q h1 h2 => hk1 q h1 h2)⟩
                        rw [sp_f0 (F i) sr (by omega)]
                        refine lv_isub hx hb dL_law_311 ?_
                        rw [pk_sub (a := ((runs (F i)).2.2 j + 1) / 2) (b := ((runs (F i)).2.1 j) / 2) (by omega)]
                        refine lv_iadd hx hb dL_law_312 ?_
                        rw [nI_add]
                        refine lv_istore (lv' := [(11, .int (nI ((lenL (runs (F i)) j) + ((((runs (F i)).2.2 j + 1) / 2) - (((runs (F i)).2.1 j) / 2))))), (10, .int (nI ((cntL (runs (F i)) j) + ((((runs (F i)).2.2 j) - ((runs (F i)).2.1 j)) + 1)))), (12, .int (nI ((runs (F i)).2.2 j))), (16, .int (nI ((runs (F i)).2.2 j))), (15, .int (nI ((runs (F i)).2.1 j))), (14, .int (nI (1 - ((runs (F i)).2.1 j) % 2 + 2 * (1 - ((runs (F i)).2.2 j) % 2)))), (13, .int (nI j)), (9, .int (nI ((runs (F i)).1))), (8, .int (nI i)), (7, .int (nI (sumK (fun k => (runs (F k)).1) i))), (5, .long d0), (4, .int (nI st)), (3, .ref (ad 0)), (2, .ref o), (1, .int (nI ti)), (0, .ref b)]) hx hb dL_law_313 hl (by decide) rfl (fun ls hl => ?_)
                        refine lv_iinc (v := nI (j + 1)) (lv' := [(13, .int (nI (j + 1))), (11, .int (nI ((lenL (runs (F i)) j) + ((((runs (F i)).2.2 j + 1) / 2) - (((runs (F i)).2.1 j) / 2))))), (10, .int (nI ((cntL (runs (F i)) j) + ((((runs (F i)).2.2 j) - ((runs (F i)).2.1 j)) + 1)))), (12, .int (nI ((runs (F i)).2.2 j))), (16, .int (nI ((runs (F i)).2.2 j))), (15, .int (nI ((runs (F i)).2.1 j))), (14, .int (nI (1 - ((runs (F i)).2.1 j) % 2 + 2 * (1 - ((runs (F i)).2.2 j) % 2)))), (9, .int (nI ((runs (F i)).1))), (8, .int (nI i)), (7, .int (nI (sumK (fun k => (runs (F k)).1) i))), (5, .long d0), (4, .int (nI st)), (3, .ref (ad 0)), (2, .ref o), (1, .int (nI ti)), (0, .ref b)]) hx hb dL_law_315 hl (k := 6) rfl (inc_1 _) (by decide) rfl (fun ls hl => ?_)
                        refine lv_goto (tgt := 118) hx hb dL_law_318 (by decide) ?_
                        have e11 : nI ((runs (F i)).2.2 j) = lastV (runs (F i)) (j + 1) := by (exact (last_s _ _).symm)
                        have e12 : nI ((lenL (runs (F i)) j) + ((((runs (F i)).2.2 j + 1) / 2) - (((runs (F i)).2.1 j) / 2))) = nI (lenL (runs (F i)) (j + 1)) := by (exact congrArg nI (lenL_s _ _).symm)
                        have e13 : nI ((cntL (runs (F i)) j) + ((((runs (F i)).2.2 j) - ((runs (F i)).2.1 j)) + 1)) = nI (cntL (runs (F i)) (j + 1)) := by (exact congrArg nI (cntL_s _ _).symm)
                        exact hnext_j _ _ _ ⟨hS, lv_sub (lv_ex (lv_ex (lv_ex hl 3 rfl (congrArg Value.int e11)) 1 rfl (congrArg Value.int e12)) 2 rfl (congrArg Value.int e13)) [0, 3, 1, 2, 7, 8, 9, 10, 11, 12, 13, 14, 15] rfl, (by exact hcs)⟩
                      · skip
                        have c270 : ¬ (0 = 0) := fun q9 => c270 ((nc_eq (a := 0) (b := 0) (by omega) (by omega)).mpr q9)
                        omega
                  · skip
                    have c238 : ¬ (200 ≤ (runs (F i)).2.2 j) := fun q9 => c238 ((nc_le (a := 200) (b := (runs (F i)).2.2 j) (by omega) (by omega)).mpr q9)
                    refine lv_aload_n hx hb dL_law_241 rfl (lv_at hl 12 rfl) ?_
                    refine lv_iload hx hb dL_law_242 (lv_at hl 8 rfl) ?_
                    refine lv_iload hx hb dL_law_244 (lv_at hl 0 rfl) ?_
                    refine lv_iconst (v := nI 1) hx hb dL_law_246 (by decide) ?_
                    refine lv_iadd hx hb dL_law_247 ?_
                    rw [nI_add]
                    have hcs8 := hcs
                    obtain ⟨dr, sr, C, la, vv, hdr, ho9, hsn, hw⟩ := hcs8
                    refine vp_callSi (va_runV (As := [.int (nI i), .int (nI (((runs (F i)).2.2 j) + 1))]) (rest := []) ⟨hx, hb, hml, hown, hts⟩ (conX3_far l D T ad F V sr C i (((runs (F i)).2.2 j) + 1) (by omega) (by omega)) (cwV 2 hts gL_law_X3_far rfl rfl rfl (by decide +kernel) ⟨Nat.le_of_ble_eq_true rfl, Nat.le_of_ble_eq_true rfl⟩) (preV hK hw.pl.o rfl hw.pl) rfl rfl hl.1 rfl (lv_room (Nat.le_of_ble_eq_true rfl)) dL_law_248 ⟨by show _ ≤ 600086; omega, by show _ ≤ 7301442; omega⟩).run (fun r14 hr14 => ?_)
                    obtain rfl : r14 = nI 1 := far_1 hr14 (by omega) (hrn9.nxt (by omega) (by omega)) (hrn9.stop (by omega)).1
                    refine lv_iconst (v := nI 1) hx hb dL_law_251 (by decide) ?_
                    refine lv_icmp_ne (tgt := 273) hx hb dL_law_252 (by decide) (fun c252 => ?_) (fun c252 => ?_)
                    · skip
                      have c252 : ¬ (1 = 1) := fun q9 => c252 ((nc_eq (a := 1) (b := 1) (by omega) (by omega)).mpr q9)
                      omega
                    · skip
                      have c252 : 1 = 1 := (nc_eq (a := 1) (b := 1) (by omega) (by omega)).mp c252
                      refine lv_iload hx hb dL_law_255 (lv_at hl 1 rfl) ?_
                      refine lv_if_le (tgt := 275) hx hb dL_law_257 (by decide) (fun c257 => ?_) (fun c257 => ?_)
                      · skip
                        have c257 : (runs (F i)).2.1 j ≤ 0 := (nc_le (a := (runs (F i)).2.1 j) (b := 0) (by omega) (by omega)).mp c257
                        refine lv_iload hx hb dL_law_275 (lv_at hl 0 rfl) ?_
                        refine lv_istore (lv' := [(12, .int (nI ((runs (F i)).2.2 j))), (16, .int (nI ((runs (F i)).2.2 j))), (15, .int (nI ((runs (F i)).2.1 j))), (14, .int (nI (1 - ((runs (F i)).2.1 j) % 2 + 2 * (1 - ((runs (F i)).2.2 j) % 2)))), (13, .int (nI j)), (11, .int (nI (lenL (runs (F i)) j))), (10, .int (nI (cntL (runs (F i)) j))), (9, .int (nI ((runs (F i)).1))), (8, .int (nI i)), (7, .int (nI (sumK (fun k => (runs (F k)).1) i))), (5, .long d0), (4, .int (nI st)), (3, .ref (ad 0)), (2, .ref o), (1, .int (nI ti)), (0, .ref b)]) hx hb dL_law_277 hl (by decide) rfl (fun ls hl => ?_)
                        refine lv_iload hx hb dL_law_279 (lv_at hl 6 rfl) ?_
                        refine lv_iload hx hb dL_law_281 (lv_at hl 1 rfl) ?_
                        refine lv_iload hx hb dL_law_283 (lv_at hl 2 rfl) ?_
                        refine lv_isub hx hb dL_law_285 ?_
                        rw [pk_sub (a := (runs (F i)).2.2 j) (b := (runs (F i)).2.1 j) (by omega)]
                        refine lv_iconst (v := nI 1) hx hb dL_law_286 (by decide) ?_
                        refine lv_iadd hx hb dL_law_287 ?_
                        rw [nI_add]
                        refine lv_iadd hx hb dL_law_288 ?_
                        rw [nI_add]
                        refine lv_istore (lv' := [(10, .int (nI ((cntL (runs (F i)) j) + ((((runs (F i)).2.2 j) - ((runs (F i)).2.1 j)) + 1)))), (12, .int (nI ((runs (F i)).2.2 j))), (16, .int (nI ((runs (F i)).2.2 j))), (15, .int (nI ((runs (F i)).2.1 j))), (14, .int (nI (1 - ((runs (F i)).2.1 j) % 2 + 2 * (1 - ((runs (F i)).2.2 j) % 2)))), (13, .int (nI j)), (11, .int (nI (lenL (runs (F i)) j))), (9, .int (nI ((runs (F i)).1))), (8, .int (nI i)), (7, .int (nI (sumK (fun k => (runs (F k)).1) i))), (5, .long d0), (4, .int (nI st)), (3, .ref (ad 0)), (2, .ref o), (1, .int (nI ti)), (0, .ref b)]) hx hb dL_law_289 hl (by decide) rfl (fun ls hl => ?_)
                        refine lv_iload hx hb dL_law_291 (lv_at hl 6 rfl) ?_
                        refine lv_aload_n hx hb dL_law_293 rfl (lv_at hl 12 rfl) ?_
                        refine lv_iload hx hb dL_law_294 (lv_at hl 8 rfl) ?_
                        refine lv_iload hx hb dL_law_296 (lv_at hl 5 rfl) ?_
                        refine lv_iconst (v := nI 1) hx hb dL_law_298 (by decide) ?_
                        have hcs8 := hcs
                        obtain ⟨dr, sr, C, la, vv, hdr, ho9, hsn, hw⟩ := hcs8
                        refine va_calli (va_runV (As := [.int (nI i), .int (nI j), .int (nI 1)]) (rest := [.int (nI (lenL (runs (F i)) j))]) ⟨hx, hb, hml, hown, hts⟩ (conX3_ofSpan l D T ad F V sr C i j 1 (by omega) (by omega) (by rw [sp_n]; omega) hsn) (cwV 3 hts gL_law_X3_ofSpan rfl rfl rfl (by decide +kernel) ⟨Nat.le_of_ble_eq_true rfl, Nat.le_of_ble_eq_true rfl⟩) (preV hK hw.pl.o rfl hw.pl) rfl rfl hl.1 rfl (lv_room (Nat.le_of_ble_eq_true rfl)) dL_law_299 ⟨by show _ ≤ 600086; omega, by show _ ≤ 7301442; omega⟩) hS (fun q _ h9 => (by obtain ⟨i9, h8, rfl⟩ := h9; exact hA _ (by have := hw.1 i9 h8; omega))) (fun q h9 => (by obtain ⟨i9, h8, rfl⟩ := h9; exact hA _ (by have := hw.1 i9 h8; omega))) (fun r u t H1 locs1 ht hvm hw9 hB hz1 hk1 hS => ?_)
                        try dsimp only at hB
                        rw [ht] at hB
                        rw [hw9]
                        replace hcs : CS D T ad o sc N sf (d) F V L U H1 := ⟨dr, (rrR (F i) (nI 1) sr 201), _, la, vv, by omega, by omega, (rrR_le _ _ _ _), hw.setP hB (fun q h1 h2 => hk1 q h1 h2)⟩
                        rw [sp_f1 (F i) sr (by omega)]
                        refine lv_aload_n hx hb dL_law_302 rfl (lv_at hl 12 rfl) ?_
                        refine lv_iload hx hb dL_law_303 (lv_at hl 8 rfl) ?_
                        refine lv_iload hx hb dL_law_305 (lv_at hl 5 rfl) ?_
                        refine lv_iconst (v := nI 0) hx hb dL_law_307 (by decide) ?_
                        have hcs8 := hcs
                        obtain ⟨dr, sr, C, la, vv, hdr, ho9, hsn, hw⟩ := hcs8
                        refine va_calli (va_runV (As := [.int (nI i), .int (nI j), .int (nI 0)]) (rest := [.int (nI (((runs (F i)).2.2 j + 1) / 2)), .int (nI (lenL (runs (F i)) j))]) ⟨hx, hb, hml, hown, hts⟩ (conX3_ofSpan l D T ad F V sr C i j 0 (by omega) (by omega) (by rw [sp_n]; omega) hsn) (cwV 3 hts gL_law_X3_ofSpan rfl rfl rfl (by decide +kernel) ⟨Nat.le_of_ble_eq_true rfl, Nat.le_of_ble_eq_true rfl⟩) (preV hK hw.pl.o rfl hw.pl) rfl rfl hl.1 rfl (lv_room (Nat.le_of_ble_eq_true rfl)) dL_law_308 ⟨by show _ ≤ 600086; omega, by show _ ≤ 7301442; omega⟩) hS (fun q _ h9 => (by obtain ⟨i9, h8, rfl⟩ := h9; exact hA _ (by have := hw.1 i9 h8; omega))) (fun q h9 => (by obtain ⟨i9, h8, rfl⟩ := h9; exact hA _ (by have := hw.1 i9 h8; omega))) (fun r u t H1 locs1 ht hvm hw9 hB hz1 hk1 hS => ?_)
                        try dsimp only at hB
                        rw [ht] at hB
                        rw [hw9]
                        replace hcs : CS D T ad o sc N sf (d) F V L U H1 := ⟨dr, (rrR (F i) (nI 1) sr 201), _, la, vv, by omega, by omega, (rrR_le _ _ _ _), hw.setP hB (fun q h1 h2 => hk1 q h1 h2)⟩
                        rw [sp_f0 (F i) sr (by omega)]
                        refine lv_isub hx hb dL_law_311 ?_
                        rw [pk_sub (a := ((runs (F i)).2.2 j + 1) / 2) (b := ((runs (F i)).2.1 j) / 2) (by omega)]
                        refine lv_iadd hx hb dL_law_312 ?_
                        rw [nI_add]
                        refine lv_istore (lv' := [(11, .int (nI ((lenL (runs (F i)) j) + ((((runs (F i)).2.2 j + 1) / 2) - (((runs (F i)).2.1 j) / 2))))), (10, .int (nI ((cntL (runs (F i)) j) + ((((runs (F i)).2.2 j) - ((runs (F i)).2.1 j)) + 1)))), (12, .int (nI ((runs (F i)).2.2 j))), (16, .int (nI ((runs (F i)).2.2 j))), (15, .int (nI ((runs (F i)).2.1 j))), (14, .int (nI (1 - ((runs (F i)).2.1 j) % 2 + 2 * (1 - ((runs (F i)).2.2 j) % 2)))), (13, .int (nI j)), (9, .int (nI ((runs (F i)).1))), (8, .int (nI i)), (7, .int (nI (sumK (fun k => (runs (F k)).1) i))), (5, .long d0), (4, .int (nI st)), (3, .ref (ad 0)), (2, .ref o), (1, .int (nI ti)), (0, .ref b)]) hx hb dL_law_313 hl (by decide) rfl (fun ls hl => ?_)
                        refine lv_iinc (v := nI (j + 1)) (lv' := [(13, .int (nI (j + 1))), (11, .int (nI ((lenL (runs (F i)) j) + ((((runs (F i)).2.2 j + 1) / 2) - (((runs (F i)).2.1 j) / 2))))), (10, .int (nI ((cntL (runs (F i)) j) + ((((runs (F i)).2.2 j) - ((runs (F i)).2.1 j)) + 1)))), (12, .int (nI ((runs (F i)).2.2 j))), (16, .int (nI ((runs (F i)).2.2 j))), (15, .int (nI ((runs (F i)).2.1 j))), (14, .int (nI (1 - ((runs (F i)).2.1 j) % 2 + 2 * (1 - ((runs (F i)).2.2 j) % 2)))), (9, .int (nI ((runs (F i)).1))), (8, .int (nI i)), (7, .int (nI (sumK (fun k => (runs (F k)).1) i))), (5, .long d0), (4, .int (nI st)), (3, .ref (ad 0)), (2, .ref o), (1, .int (nI ti)), (0, .ref b)]) hx hb dL_law_315 hl (k := 6) rfl (inc_1 _) (by decide) rfl (fun ls hl => ?_)
                        refine lv_goto (tgt := 118) hx hb dL_law_318 (by decide) ?_
                        have e15 : nI ((runs (F i)).2.2 j) = lastV (runs (F i)) (j + 1) := by (exact (last_s _ _).symm)
                        have e16 : nI ((lenL (runs (F i)) j) + ((((runs (F i)).2.2 j + 1) / 2) - (((runs (F i)).2.1 j) / 2))) = nI (lenL (runs (F i)) (j + 1)) := by (exact congrArg nI (lenL_s _ _).symm)
                        have e17 : nI ((cntL (runs (F i)) j) + ((((runs (F i)).2.2 j) - ((runs (F i)).2.1 j)) + 1)) = nI (cntL (runs (F i)) (j + 1)) := by (exact congrArg nI (cntL_s _ _).symm)
                        exact hnext_j _ _ _ ⟨hS, lv_sub (lv_ex (lv_ex (lv_ex hl 3 rfl (congrArg Value.int e15)) 1 rfl (congrArg Value.int e16)) 2 rfl (congrArg Value.int e17)) [0, 3, 1, 2, 7, 8, 9, 10, 11, 12, 13, 14, 15] rfl, (by exact hcs)⟩
                      · skip
                        have c257 : ¬ ((runs (F i)).2.1 j ≤ 0) := fun q9 => c257 ((nc_le (a := (runs (F i)).2.1 j) (b := 0) (by omega) (by omega)).mpr q9)
                        refine lv_aload_n hx hb dL_law_260 rfl (lv_at hl 12 rfl) ?_
                        refine lv_iload hx hb dL_law_261 (lv_at hl 8 rfl) ?_
                        refine lv_iload hx hb dL_law_263 (lv_at hl 1 rfl) ?_
                        refine lv_iconst (v := nI 1) hx hb dL_law_265 (by decide) ?_
                        refine lv_isub hx hb dL_law_266 ?_
                        rw [pk_sub (a := (runs (F i)).2.1 j) (b := 1) (by omega)]
                        have hcs8 := hcs
                        obtain ⟨dr, sr, C, la, vv, hdr, ho9, hsn, hw⟩ := hcs8
                        refine vp_callSi (va_runV (As := [.int (nI i), .int (nI (((runs (F i)).2.1 j) - 1))]) (rest := []) ⟨hx, hb, hml, hown, hts⟩ (conX3_has l D T ad F V sr C i (((runs (F i)).2.1 j) - 1) (by omega) (by omega)) (cwV 2 hts gL_law_X3_has rfl rfl rfl (by decide +kernel) ⟨Nat.le_of_ble_eq_true rfl, Nat.le_of_ble_eq_true rfl⟩) (preV hK hw.pl.o rfl hw.pl) rfl rfl hl.1 rfl (lv_room (Nat.le_of_ble_eq_true rfl)) dL_law_267 ⟨by show _ ≤ 600086; omega, by show _ ≤ 7301442; omega⟩).run (fun r18 hr18 => ?_)
                        rw [hr18]
                        rw [hold_0 (hrn9.prv (by omega) (by omega))]
                        refine lv_if_eq (tgt := 275) hx hb dL_law_270 (by decide) (fun c270 => ?_) (fun c270 => ?_)
                        · skip
                          have c270 : 0 = 0 := (nc_eq (a := 0) (b := 0) (by omega) (by omega)).mp c270
                          refine lv_iload hx hb dL_law_275 (lv_at hl 0 rfl) ?_
                          refine lv_istore (lv' := [(12, .int (nI ((runs (F i)).2.2 j))), (16, .int (nI ((runs (F i)).2.2 j))), (15, .int (nI ((runs (F i)).2.1 j))), (14, .int (nI (1 - ((runs (F i)).2.1 j) % 2 + 2 * (1 - ((runs (F i)).2.2 j) % 2)))), (13, .int (nI j)), (11, .int (nI (lenL (runs (F i)) j))), (10, .int (nI (cntL (runs (F i)) j))), (9, .int (nI ((runs (F i)).1))), (8, .int (nI i)), (7, .int (nI (sumK (fun k => (runs (F k)).1) i))), (5, .long d0), (4, .int (nI st)), (3, .ref (ad 0)), (2, .ref o), (1, .int (nI ti)), (0, .ref b)]) hx hb dL_law_277 hl (by decide) rfl (fun ls hl => ?_)
                          refine lv_iload hx hb dL_law_279 (lv_at hl 6 rfl) ?_
                          refine lv_iload hx hb dL_law_281 (lv_at hl 1 rfl) ?_
                          refine lv_iload hx hb dL_law_283 (lv_at hl 2 rfl) ?_
                          refine lv_isub hx hb dL_law_285 ?_
                          rw [pk_sub (a := (runs (F i)).2.2 j) (b := (runs (F i)).2.1 j) (by omega)]
                          refine lv_iconst (v := nI 1) hx hb dL_law_286 (by decide) ?_
                          refine lv_iadd hx hb dL_law_287 ?_
                          rw [nI_add]
                          refine lv_iadd hx hb dL_law_288 ?_
                          rw [nI_add]
                          refine lv_istore (lv' := [(10, .int (nI ((cntL (runs (F i)) j) + ((((runs (F i)).2.2 j) - ((runs (F i)).2.1 j)) + 1)))), (12, .int (nI ((runs (F i)).2.2 j))), (16, .int (nI ((runs (F i)).2.2 j))), (15, .int (nI ((runs (F i)).2.1 j))), (14, .int (nI (1 - ((runs (F i)).2.1 j) % 2 + 2 * (1 - ((runs (F i)).2.2 j) % 2)))), (13, .int (nI j)), (11, .int (nI (lenL (runs (F i)) j))), (9, .int (nI ((runs (F i)).1))), (8, .int (nI i)), (7, .int (nI (sumK (fun k => (runs (F k)).1) i))), (5, .long d0), (4, .int (nI st)), (3, .ref (ad 0)), (2, .ref o), (1, .int (nI ti)), (0, .ref b)]) hx hb dL_law_289 hl (by decide) rfl (fun ls hl => ?_)
                          refine lv_iload hx hb dL_law_291 (lv_at hl 6 rfl) ?_
                          refine lv_aload_n hx hb dL_law_293 rfl (lv_at hl 12 rfl) ?_
                          refine lv_iload hx hb dL_law_294 (lv_at hl 8 rfl) ?_
                          refine lv_iload hx hb dL_law_296 (lv_at hl 5 rfl) ?_
                          refine lv_iconst (v := nI 1) hx hb dL_law_298 (by decide) ?_
                          have hcs8 := hcs
                          obtain ⟨dr, sr, C, la, vv, hdr, ho9, hsn, hw⟩ := hcs8
                          refine va_calli (va_runV (As := [.int (nI i), .int (nI j), .int (nI 1)]) (rest := [.int (nI (lenL (runs (F i)) j))]) ⟨hx, hb, hml, hown, hts⟩ (conX3_ofSpan l D T ad F V sr C i j 1 (by omega) (by omega) (by rw [sp_n]; omega) hsn) (cwV 3 hts gL_law_X3_ofSpan rfl rfl rfl (by decide +kernel) ⟨Nat.le_of_ble_eq_true rfl, Nat.le_of_ble_eq_true rfl⟩) (preV hK hw.pl.o rfl hw.pl) rfl rfl hl.1 rfl (lv_room (Nat.le_of_ble_eq_true rfl)) dL_law_299 ⟨by show _ ≤ 600086; omega, by show _ ≤ 7301442; omega⟩) hS (fun q _ h9 => (by obtain ⟨i9, h8, rfl⟩ := h9; exact hA _ (by have := hw.1 i9 h8; omega))) (fun q h9 => (by obtain ⟨i9, h8, rfl⟩ := h9; exact hA _ (by have := hw.1 i9 h8; omega))) (fun r u t H1 locs1 ht hvm hw9 hB hz1 hk1 hS => ?_)
                          try dsimp only at hB
                          rw [ht] at hB
                          rw [hw9]
                          replace hcs : CS D T ad o sc N sf (d) F V L U H1 := ⟨dr, (rrR (F i) (nI 1) sr 201), _, la, vv, by omega, by omega, (rrR_le _ _ _ _), hw.setP hB (fun q h1 h2 => hk1 q h1 h2)⟩
                          rw [sp_f1 (F i) sr (by omega)]
                          refine lv_aload_n hx hb dL_law_302 rfl (lv_at hl 12 rfl) ?_
                          refine lv_iload hx hb dL_law_303 (lv_at hl 8 rfl) ?_
                          refine lv_iload hx hb dL_law_305 (lv_at hl 5 rfl) ?_
                          refine lv_iconst (v := nI 0) hx hb dL_law_307 (by decide) ?_
                          have hcs8 := hcs
                          obtain ⟨dr, sr, C, la, vv, hdr, ho9, hsn, hw⟩ := hcs8
                          refine va_calli (va_runV (As := [.int (nI i), .int (nI j), .int (nI 0)]) (rest := [.int (nI (((runs (F i)).2.2 j + 1) / 2)), .int (nI (lenL (runs (F i)) j))]) ⟨hx, hb, hml, hown, hts⟩ (conX3_ofSpan l D T ad F V sr C i j 0 (by omega) (by omega) (by rw [sp_n]; omega) hsn) (cwV 3 hts gL_law_X3_ofSpan rfl rfl rfl (by decide +kernel) ⟨Nat.le_of_ble_eq_true rfl, Nat.le_of_ble_eq_true rfl⟩) (preV hK hw.pl.o rfl hw.pl) rfl rfl hl.1 rfl (lv_room (Nat.le_of_ble_eq_true rfl)) dL_law_308 ⟨by show _ ≤ 600086; omega, by show _ ≤ 7301442; omega⟩) hS (fun q _ h9 => (by obtain ⟨i9, h8, rfl⟩ := h9; exact hA _ (by have := hw.1 i9 h8; omega))) (fun q h9 => (by obtain ⟨i9, h8, rfl⟩ := h9; exact hA _ (by have := hw.1 i9 h8; omega))) (fun r u t H1 locs1 ht hvm hw9 hB hz1 hk1 hS => ?_)
                          try dsimp only at hB
                          rw [ht] at hB
                          rw [hw9]
                          replace hcs : CS D T ad o sc N sf (d) F V L U H1 := ⟨dr, (rrR (F i) (nI 1) sr 201), _, la, vv, by omega, by omega, (rrR_le _ _ _ _), hw.setP hB (fun q h1 h2 => hk1 q h1 h2)⟩
                          rw [sp_f0 (F i) sr (by omega)]
                          refine lv_isub hx hb dL_law_311 ?_
                          rw [pk_sub (a := ((runs (F i)).2.2 j + 1) / 2) (b := ((runs (F i)).2.1 j) / 2) (by omega)]
                          refine lv_iadd hx hb dL_law_312 ?_
                          rw [nI_add]
                          refine lv_istore (lv' := [(11, .int (nI ((lenL (runs (F i)) j) + ((((runs (F i)).2.2 j + 1) / 2) - (((runs (F i)).2.1 j) / 2))))), (10, .int (nI ((cntL (runs (F i)) j) + ((((runs (F i)).2.2 j) - ((runs (F i)).2.1 j)) + 1)))), (12, .int (nI ((runs (F i)).2.2 j))), (16, .int (nI ((runs (F i)).2.2 j))), (15, .int (nI ((runs (F i)).2.1 j))), (14, .int (nI (1 - ((runs (F i)).2.1 j) % 2 + 2 * (1 - ((runs (F i)).2.2 j) % 2)))), (13, .int (nI j)), (9, .int (nI ((runs (F i)).1))), (8, .int (nI i)), (7, .int (nI (sumK (fun k => (runs (F k)).1) i))), (5, .long d0), (4, .int (nI st)), (3, .ref (ad 0)), (2, .ref o), (1, .int (nI ti)), (0, .ref b)]) hx hb dL_law_313 hl (by decide) rfl (fun ls hl => ?_)
                          refine lv_iinc (v := nI (j + 1)) (lv' := [(13, .int (nI (j + 1))), (11, .int (nI ((lenL (runs (F i)) j) + ((((runs (F i)).2.2 j + 1) / 2) - (((runs (F i)).2.1 j) / 2))))), (10, .int (nI ((cntL (runs (F i)) j) + ((((runs (F i)).2.2 j) - ((runs (F i)).2.1 j)) + 1)))), (12, .int (nI ((runs (F i)).2.2 j))), (16, .int (nI ((runs (F i)).2.2 j))), (15, .int (nI ((runs (F i)).2.1 j))), (14, .int (nI (1 - ((runs (F i)).2.1 j) % 2 + 2 * (1 - ((runs (F i)).2.2 j) % 2)))), (9, .int (nI ((runs (F i)).1))), (8, .int (nI i)), (7, .int (nI (sumK (fun k => (runs (F k)).1) i))), (5, .long d0), (4, .int (nI st)), (3, .ref (ad 0)), (2, .ref o), (1, .int (nI ti)), (0, .ref b)]) hx hb dL_law_315 hl (k := 6) rfl (inc_1 _) (by decide) rfl (fun ls hl => ?_)
                          refine lv_goto (tgt := 118) hx hb dL_law_318 (by decide) ?_
                          have e19 : nI ((runs (F i)).2.2 j) = lastV (runs (F i)) (j + 1) := by (exact (last_s _ _).symm)
                          have e20 : nI ((lenL (runs (F i)) j) + ((((runs (F i)).2.2 j + 1) / 2) - (((runs (F i)).2.1 j) / 2))) = nI (lenL (runs (F i)) (j + 1)) := by (exact congrArg nI (lenL_s _ _).symm)
                          have e21 : nI ((cntL (runs (F i)) j) + ((((runs (F i)).2.2 j) - ((runs (F i)).2.1 j)) + 1)) = nI (cntL (runs (F i)) (j + 1)) := by (exact congrArg nI (cntL_s _ _).symm)
                          exact hnext_j _ _ _ ⟨hS, lv_sub (lv_ex (lv_ex (lv_ex hl 3 rfl (congrArg Value.int e19)) 1 rfl (congrArg Value.int e20)) 2 rfl (congrArg Value.int e21)) [0, 3, 1, 2, 7, 8, 9, 10, 11, 12, 13, 14, 15] rfl, (by exact hcs)⟩
                        · skip
                          have c270 : ¬ (0 = 0) := fun q9 => c270 ((nc_eq (a := 0) (b := 0) (by omega) (by omega)).mpr q9)
                          omega
  · skip
    intro H locs ls hin9
    obtain ⟨hS, hl, hcs⟩ := hin9
    refine lv_iload hx hb dL_law_118 (lv_at hl 0 rfl) ?_
    refine lv_iload hx hb dL_law_120 (lv_at hl 4 rfl) ?_
    refine lv_icmp_ge (tgt := 321) hx hb dL_law_122 (by decide) (fun c122 => ?_) (fun c122 => ?_)
    · skip
      have c122 : (runs (F i)).1 ≤ (runs (F i)).1 := (nc_le (a := (runs (F i)).1) (b := (runs (F i)).1) (by omega) (by omega)).mp c122
      exact kk321 H locs ls hS (lv_sub hl [2, 3, 4, 5, 6, 7, 8, 9, 10, 11, 12] rfl) hcs
    · skip
      have c122 : ¬ ((runs (F i)).1 ≤ (runs (F i)).1) := fun q9 => c122 ((nc_le (a := (runs (F i)).1) (b := (runs (F i)).1) (by omega) (by omega)).mpr q9)
      omega
