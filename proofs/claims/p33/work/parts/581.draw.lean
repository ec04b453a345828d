/-! STONES: DRAWS -/
theorem below_n (v : Int32) {n : Nat} (h0 : 0 < n) (hn : n < 2 ^ 31) : ∃ k : Nat, k < n ∧ (v &&& 2147483647) - (v &&& 2147483647) / nI n * nI n = nI k := by
  have h1 : ∃ j : Nat, j < 2 ^ 31 ∧ v &&& 2147483647 = nI j := by
    refine nI_of ?_
    intro q
    have h2 : (v &&& 2147483647).toBitVec.msb = true := by
      have h3 := Int32.lt_iff_toInt_lt.mp q
      rw [BitVec.msb_eq_toInt]
      exact decide_eq_true h3
    have h4 : (v &&& 2147483647).toBitVec = v.toBitVec &&& 2147483647#32 := rfl
    rw [h4, BitVec.msb_and] at h2
    have h5 : (2147483647#32).msb = false := by decide
    rw [h5, Bool.and_false] at h2
    cases h2
  obtain ⟨j, hj, e⟩ := h1
  rw [e]
  exact ⟨j % n, Nat.mod_lt _ h0, pk_rem hj h0 hn⟩
set_option maxHeartbeats 4000000 in
set_option maxRecDepth 100000 in
theorem conL_below (l : Launch) (D : va_G) (T : Nat → ClassId) (v : Int32) (n : Nat) (h0 : 0 < n) (hn : n < 2 ^ 31) : Met l yL_below wsL_below ({ frames := 0, cells := 0, slots := 0, locals := 0 }) (cP D T [.int v, .int (nI n)] (fun H => True)) (vp_Si (fun r => ∃ k : Nat, k < n ∧ r = nI k)) 0 0 (fun _ => False) := by
  refine Met.ofW (cc := cL_below) (maxL := 2) (ret := (some .int)) (by decide) rfl ?_
  intro p e s m args below meth c s₁ B hml hv9
  obtain ⟨rfl, hK, -⟩ := hv9
  have hx := B.exec
  have hb := B.bytes
  have hr := B.returns
  have hts := atoms_spec (ws := wsL_below) B.pre
  have hown : s.vm.findClass RL = some m.cls := findClass_of_methodNamed B.named
  have hlocks := B.notSynchronized
  have hl := lv_entry ([.int v, .int (nI n)]) (n := 2) (Nat.le_of_ble_eq_true rfl)
  rw [lg_entry_eq]
  generalize (lg_sl ([.int v, .int (nI n)]) ++ List.replicate (2 - (lg_sl ([.int v, .int (nI n)])).length) Slot.unset).toArray = ls at hl ⊢
  have hl : lv_has ls 2 [(0, .int v), (1, .int (nI n))] := hl
  refine lv_iload_n hx hb dL_below_0 rfl (lv_at hl 0 rfl) ?_
  refine lv_ldc hx hb hown (hts (.constant RL 7 (2147483647)) (by decide +kernel)) dL_below_1 ?_
  refine lv_iand hx hb dL_below_3 ?_
  refine lv_iload_n hx hb dL_below_4 rfl (lv_at hl 1 rfl) ?_
  refine lv_irem hx hb dL_below_5 (fun h9 => by have h8 := (nc_eq (a := n) (b := 0) (by omega) (by decide)).mp h9; omega) ?_
  exact W.iret (v := (v &&& (2147483647)) - (v &&& (2147483647)) / (nI n) * (nI n)) hx hb hr (fun t ht _ => ⟨(v &&& (2147483647)) - (v &&& (2147483647)) / (nI n) * (nI n), rfl, by exact below_n v h0 hn, ht⟩) (fun q hq => absurd hq List.not_mem_nil) dL_below_6

set_option maxHeartbeats 4000000 in
set_option maxRecDepth 100000 in
theorem conL_cell (l : Launch) (D : va_G) (T : Nat → ClassId) (q N k : Nat) (f : Nat → Int32) (hk : k < 2 ^ 30) (hN : N < 2 ^ 30) : Met l yL_cell wsL_cell ({ frames := 0, cells := 0, slots := 0, locals := 0 }) (cP D T [.ref q, .int (nI k)] (fun H => scX T q N f H)) (vp_Si (fun r => True)) 0 0 (fun _ => False) := by
  refine Met.ofW (cc := cL_cell) (maxL := 2) (ret := (some .int)) (by decide) rfl ?_
  intro p e s m args below meth c s₁ B hml hv9
  obtain ⟨rfl, hK, hp⟩ := hv9
  have hx := B.exec
  have hb := B.bytes
  have hr := B.returns
  have hts := atoms_spec (ws := wsL_cell) B.pre
  have hown : s.vm.findClass RL = some m.cls := findClass_of_methodNamed B.named
  have hlocks := B.notSynchronized
  have hl := lv_entry ([.ref q, .int (nI k)]) (n := 2) (Nat.le_of_ble_eq_true rfl)
  rw [lg_entry_eq]
  generalize (lg_sl ([.ref q, .int (nI k)]) ++ List.replicate (2 - (lg_sl ([.ref q, .int (nI k)])).length) Slot.unset).toArray = ls at hl ⊢
  have hl : lv_has ls 2 [(0, .ref q), (1, .int (nI k))] := hl
  refine lv_iload_n hx hb dL_cell_0 rfl (lv_at hl 1 rfl) ?_
  refine lv_aload_n hx hb dL_cell_1 rfl (lv_at hl 0 rfl) ?_
  refine q_slen hx hb hK hp dL_cell_2 ?_
  refine lv_icmp_ge (tgt := 12) hx hb dL_cell_3 (by decide) (fun c3 => ?_) (fun c3 => ?_)
  · skip
    have c3 : N ≤ k := (nc_le (a := N) (b := k) (by omega) (by omega)).mp c3
    refine lv_ldc hx hb hown (hts (.constant RL 8 (790386105)) (by decide +kernel)) dL_cell_12 ?_
    refine lv_iload_n hx hb dL_cell_14 rfl (lv_at hl 1 rfl) ?_
    refine lv_iconst (v := nI 3) hx hb dL_cell_15 (by decide) ?_
    refine lv_iadd hx hb dL_cell_16 ?_
    rw [nI_add]
    refine lv_imul hx hb dL_cell_17 ?_
    exact W.iret (v := (790386105) * (nI (k + 3))) hx hb hr (fun t ht _ => ⟨(790386105) * (nI (k + 3)), rfl, by trivial, ht⟩) (fun q hq => absurd hq List.not_mem_nil) dL_cell_18
  · skip
    have c3 : ¬ (N ≤ k) := fun q9 => c3 ((nc_le (a := N) (b := k) (by omega) (by omega)).mpr q9)
    refine lv_aload_n hx hb dL_cell_6 rfl (lv_at hl 0 rfl) ?_
    refine lv_iload_n hx hb dL_cell_7 rfl (lv_at hl 1 rfl) ?_
    refine q_sld hx hb hK hp k (rfl) (by omega) (by omega) dL_cell_8 ?_
    refine lv_goto (tgt := 18) hx hb dL_cell_9 (by decide) ?_
    exact W.iret (v := f k) hx hb hr (fun t ht _ => ⟨f k, rfl, by trivial, ht⟩) (fun q hq => absurd hq List.not_mem_nil) dL_cell_18

set_option maxHeartbeats 4000000 in
set_option maxRecDepth 100000 in
theorem conX4_draw (l : Launch) (D : va_G) (T : Nat → ClassId) (ad : Nat → Nat) (o sc N : Nat) (sf : Nat → Int32) (dr : Nat) (F V : Nat → Nat → Int32) (sr : SRs) (C : Nat → Int32) (L : Nat → SL) (U : Nat → Nat → Int32) (la vv : Nat → Nat) (hN : N < 2 ^ 30) (hdr : dr < 2 ^ 30) (n : Nat) (h0 : 0 < n) (hn : n < 2 ^ 31) : Met l yX4_draw wsX4_draw ({ frames := 1, cells := 0, slots := 0, locals := 21 }) (cP D T [.ref o, .int (nI n)] (fun H => SW D T ad o sc N sf dr F V sr C L U la vv H)) (va_Qi (fun (r : Int32) (_ : Unit) => ∃ k : Nat, k < n ∧ r = nI k) (fun _ t => SW D T ad o sc N sf (dr + 1) F V sr C L U la vv t.heap) (fun z : Nat => z = o)) 0 0 (fun z : Nat => z = o) := by
  refine Met.ofW (cc := cX4_draw) (maxL := 3) (ret := (some .int)) (by decide) rfl ?_
  intro p e s m args below meth c s₁ B hml hv9
  obtain ⟨rfl, hK, hw⟩ := hv9
  have hx := B.exec
  have hb := B.bytes
  have hr := B.returns
  have hts := atoms_spec (ws := wsX4_draw) B.pre
  have hown : s.vm.findClass RX4 = some m.cls := findClass_of_methodNamed B.named
  have hlocks := B.notSynchronized
  have hin4 : ∀ w ∈ wsX40, w ∈ wsX4_draw := by decide +kernel
  generalize hAe : (fun z : Nat => z = o) = A
  have hA_o : A o := by subst hAe; first | rfl | exact Or.inl rfl | exact Or.inr rfl | (simp; done)
  have hS : va_S A s.heap s.heap [] := va_S.rf
  have hl := lv_entry ([.ref o, .int (nI n)]) (n := 3) (Nat.le_of_ble_eq_true rfl)
  rw [lg_entry_eq]
  generalize (lg_sl ([.ref o, .int (nI n)]) ++ List.replicate (3 - (lg_sl ([.ref o, .int (nI n)])).length) Slot.unset).toArray = ls at hl ⊢
  have hl : lv_has ls 3 [(0, .ref o), (1, .int (nI n))] := hl
  refine lv_aload_n hx hb dX4_draw_0 rfl (lv_at hl 0 rfl) ?_
  refine q_get (v := .ref sc) hx hb hts hin4 hown hK hw.ob rfl 1 (by decide) (hts (.fieldLink RX4 26 "PuddingstoneLineLaw$Stones" "s" "[I") (by decide +kernel)) (fun _ h9 => h9) rfl dX4_draw_1 ?_
  refine lv_aload_n hx hb dX4_draw_4 rfl (lv_at hl 0 rfl) ?_
  refine q_get (v := .int (nI dr)) hx hb hts hin4 hown hK hw.ob rfl 2 (by decide) (hts (.fieldLink RX4 30 "PuddingstoneLineLaw$Stones" "draws" "I") (by decide +kernel)) (fun _ h9 => h9) rfl dX4_draw_5 ?_
  refine lv_bipush (v := nI 24) hx hb dX4_draw_8 (by decide) ?_
  refine lv_irem hx hb dX4_draw_10 (by decide) ?_
  rw [pk_rem (a := dr) (d := 24) (by omega) (by omega) (by omega)]
  refine vp_callSi (va_runSN (As := [.ref sc, .int (nI (dr % 24))]) (rest := []) ⟨hx, hb, hml, hown, hts⟩ (conL_cell l D T sc N (dr % 24) sf (by omega) (by omega)) (⟨va_cnB 2 hts gX4_draw_L_cell_n34 rfl rfl rfl hK.2.2.2.2.2.2.2.1 (hts (.initialized RL) (by decide +kernel)) (by decide +kernel) ⟨Nat.le_of_ble_eq_true rfl, Nat.le_of_ble_eq_true rfl⟩, hts (.static yL_cell) (by decide +kernel), trivial⟩) (preS hK hw.sp) rfl rfl hl.1 rfl (lv_room (Nat.le_of_ble_eq_true rfl)) dX4_draw_11 ⟨Nat.le_of_ble_eq_true rfl, Nat.le_of_ble_eq_true rfl⟩).run (fun r1 hr1 => ?_)
  refine lv_aload_n hx hb dX4_draw_14 rfl (lv_at hl 0 rfl) ?_
  refine q_get (v := .int (nI dr)) hx hb hts hin4 hown hK hw.ob rfl 2 (by decide) (hts (.fieldLink RX4 30 "PuddingstoneLineLaw$Stones" "draws" "I") (by decide +kernel)) (fun _ h9 => h9) rfl dX4_draw_15 ?_
  refine lv_bipush (v := nI 24) hx hb dX4_draw_18 (by decide) ?_
  refine lv_idiv hx hb dX4_draw_20 (by decide) ?_
  rw [pk_div (a := dr) (d := 24) (by omega) (by omega) (by omega)]
  refine lv_bipush (v := nI 8) hx hb dX4_draw_21 (by decide) ?_
  refine lv_irem hx hb dX4_draw_23 (by decide) ?_
  rw [pk_rem (a := dr / 24) (d := 8) (by omega) (by omega) (by omega)]
  refine lv_ishr hx hb dX4_draw_24 ?_
  refine lv_sipush (v := nI 157) hx hb dX4_draw_25 (by decide) ?_
  refine lv_aload_n hx hb dX4_draw_28 rfl (lv_at hl 0 rfl) ?_
  refine q_get (v := .int (nI dr)) hx hb hts hin4 hown hK hw.ob rfl 2 (by decide) (hts (.fieldLink RX4 30 "PuddingstoneLineLaw$Stones" "draws" "I") (by decide +kernel)) (fun _ h9 => h9) rfl dX4_draw_29 ?_
  refine lv_imul hx hb dX4_draw_32 ?_
  rw [pk_mul]
  refine lv_iadd hx hb dX4_draw_33 ?_
  refine lv_iload_n hx hb dX4_draw_34 rfl (lv_at hl 1 rfl) ?_
  refine vp_callSi (va_runSN (As := [.int ((r1 >>> ((nI ((dr / 24) % 8)) &&& 31)) + (nI (157 * dr))), .int (nI n)]) (rest := []) ⟨hx, hb, hml, hown, hts⟩ (conL_below l D T ((r1 >>> ((nI ((dr / 24) % 8)) &&& 31)) + (nI (157 * dr))) n (by omega) (by omega)) (⟨va_cnB 2 hts gX4_draw_L_below_n40 rfl rfl rfl hK.2.2.2.2.2.2.2.2 (hts (.initialized RL) (by decide +kernel)) (by decide +kernel) ⟨Nat.le_of_ble_eq_true rfl, Nat.le_of_ble_eq_true rfl⟩, hts (.static yL_below) (by decide +kernel), trivial⟩) (preS hK trivial) rfl rfl hl.1 rfl (lv_room (Nat.le_of_ble_eq_true rfl)) dX4_draw_35 ⟨Nat.le_of_ble_eq_true rfl, Nat.le_of_ble_eq_true rfl⟩).run (fun r2 hr2 => ?_)
  obtain ⟨kk, hkk, rfl⟩ := hr2
  refine lv_istore_n (lv' := [(2, .int (nI kk)), (0, .ref o), (1, .int (nI n))]) hx hb dX4_draw_38 rfl hl (by decide) rfl (fun ls hl => ?_)
  refine lv_aload_n hx hb dX4_draw_39 rfl (lv_at hl 1 rfl) ?_
  refine lv_dup hx hb dX4_draw_40 rfl ?_
  refine q_get (v := .int (nI dr)) hx hb hts hin4 hown hK hw.ob rfl 2 (by decide) (hts (.fieldLink RX4 30 "PuddingstoneLineLaw$Stones" "draws" "I") (by decide +kernel)) (fun _ h9 => h9) rfl dX4_draw_41 ?_
  refine lv_iconst (v := nI 1) hx hb dX4_draw_44 (by decide) ?_
  refine lv_iadd hx hb dX4_draw_45 ?_
  rw [nI_add]
  refine q_put (v := .int (nI (dr + 1))) hx hb hts hin4 tyX4 tyX4_ok nmX4 hown hK hw.ob rfl 2 (by decide) (hts (.fieldLink RX4 30 "PuddingstoneLineLaw$Stones" "draws" "I") (by decide +kernel)) (fun _ h9 => h9) rfl rfl rfl (Nat.le_of_ble_eq_true rfl) hS (hA_o) dX4_draw_46 (fun H1 locs1 hw9 oq hS => ?_)
  replace hw := hw.setO hw9 oq
  refine lv_iload_n hx hb dX4_draw_49 rfl (lv_at hl 0 rfl) ?_
  exact W.iret (v := nI kk) hx hb hr (fun t ht _ => ⟨⟨nI kk, (), rfl, by exact ⟨kk, hkk, rfl⟩, by dsimp only; rw [ht]; exact hw⟩, hS.F ht⟩) hS.2.2 dX4_draw_50
