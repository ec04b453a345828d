/-! STONES: WHAT READS A ROW -/
set_option maxHeartbeats 4000000 in
set_option maxRecDepth 100000 in
theorem conX4_isIn (l : Launch) (D : va_G) (T : Nat → ClassId) (w q : Nat) (ads : Nat → Nat) (n : Nat) (a b : Nat → Nat) (hS : ∀ k : Nat, k < n → a k ≤ b k ∧ b k ≤ 200) (hn : n ≤ 101) (g : Nat) (hg : g < 2 ^ 30) : Met l yX4_isIn wsX4_isIn ({ frames := 0, cells := 0, slots := 0, locals := 0 }) (cP D T [.ref q, .int (nI g)] (fun H => ILA D T w q ads n a b H)) (vp_Si (fun r => (r = nI 1 ∧ inN n a b g) ∨ (r = nI 0 ∧ ¬ inN n a b g))) 0 0 (fun _ => False) := by
  refine Met.ofW (cc := cX4_isIn) (maxL := 6) (ret := (some .boolean)) (by decide) rfl ?_
  intro p e s m args below meth c s₁ B hml hv9
  obtain ⟨rfl, hK, hil⟩ := hv9
  have hx := B.exec
  have hb := B.bytes
  have hr := B.returns
  have hts := atoms_spec (ws := wsX4_isIn) B.pre
  have hown : s.vm.findClass RX4 = some m.cls := findClass_of_methodNamed B.named
  have hlocks := B.notSynchronized
  have hl := lv_entry ([.ref q, .int (nI g)]) (n := 6) (Nat.le_of_ble_eq_true rfl)
  rw [lg_entry_eq]
  generalize (lg_sl ([.ref q, .int (nI g)]) ++ List.replicate (6 - (lg_sl ([.ref q, .int (nI g)])).length) Slot.unset).toArray = ls at hl ⊢
  have hl : lv_has ls 6 [(0, .ref q), (1, .int (nI g))] := hl
  refine lv_aload_n hx hb dX4_isIn_0 rfl (lv_at hl 0 rfl) ?_
  refine lv_astore_n (lv' := [(2, .ref q), (0, .ref q), (1, .int (nI g))]) hx hb dX4_isIn_1 rfl hl (by decide) rfl (fun ls hl => ?_)
  refine lv_aload_n hx hb dX4_isIn_2 rfl (lv_at hl 0 rfl) ?_
  refine q_len hx hb hK 5 rfl hil.1 dX4_isIn_3 ?_
  refine lv_istore_n (lv' := [(3, .int (nI n)), (2, .ref q), (0, .ref q), (1, .int (nI g))]) hx hb dX4_isIn_4 rfl hl (by decide) rfl (fun ls hl => ?_)
  refine lv_iconst (v := nI 0) hx hb dX4_isIn_5 (by decide) ?_
  refine lv_istore (lv' := [(4, .int (nI 0)), (3, .int (nI n)), (2, .ref q), (0, .ref q), (1, .int (nI g))]) hx hb dX4_isIn_6 hl (by decide) rfl (fun ls hl => ?_)
  refine q_for (fun (i : Nat) (H : Heap) (locs : List Loc) (ls : Array Slot) => H = s.heap ∧ locs = [] ∧ lv_has ls 6 [(4, .int (nI i)), (3, .int (nI n)), (2, .ref q), (0, .ref q), (1, .int (nI g))] ∧ ∀ k : Nat, k < i → ¬ (a k ≤ g ∧ g ≤ b k)) (N := n) 0 (by omega) ?_ ?_ ?_
  · skip
    exact ⟨rfl, rfl, lv_sub hl [0, 1, 2, 3, 4] rfl, (by intro k hk; omega)⟩
  · skip
    intro i H locs ls hi9 hin9 hnext
    obtain ⟨rfl, rfl, hl, hin⟩ := hin9
    refine lv_iload hx hb dX4_isIn_8 (lv_at hl 0 rfl) ?_
    refine lv_iload_n hx hb dX4_isIn_10 rfl (lv_at hl 1 rfl) ?_
    refine lv_icmp_ge (tgt := 44) hx hb dX4_isIn_11 (by decide) (fun c11 => ?_) (fun c11 => ?_)
    · skip
      have c11 : n ≤ i := (nc_le (a := n) (b := i) (by omega) (by omega)).mp c11
      omega
    · skip
      have c11 : ¬ (n ≤ i) := fun q9 => c11 ((nc_le (a := n) (b := i) (by omega) (by omega)).mpr q9)
      have hs9 := hS i (by omega)
      refine lv_aload_n hx hb dX4_isIn_14 rfl (lv_at hl 2 rfl) ?_
      refine lv_iload hx hb dX4_isIn_15 (lv_at hl 0 rfl) ?_
      refine q_aald hx hb hK 5 rfl rfl hil.1 i rfl (by omega) (by omega) (b := ads i) rfl dX4_isIn_17 ?_
      refine lv_astore (lv' := [(5, .ref (ads i)), (4, .int (nI i)), (3, .int (nI n)), (2, .ref q), (0, .ref q), (1, .int (nI g))]) hx hb dX4_isIn_18 hl (by decide) rfl (fun ls hl => ?_)
      refine lv_iload_n hx hb dX4_isIn_20 rfl (lv_at hl 5 rfl) ?_
      refine lv_aload hx hb dX4_isIn_21 (lv_at hl 0 rfl) ?_
      refine lv_iconst (v := nI 0) hx hb dX4_isIn_23 (by decide) ?_
      refine q_iald hx hb hK (hil.2 i (by omega)).2 0 (rfl) (by omega) (by decide) dX4_isIn_24 ?_
      refine W.eq (g2 := F0 m 25 ls [.int (nI (a i)), .int (nI g)]) rfl ?_
      refine lv_icmp_lt (tgt := 38) hx hb dX4_isIn_25 (by decide) (fun c25 => ?_) (fun c25 => ?_)
      · skip
        have c25 : g < a i := (nc_lt (a := g) (b := a i) (by omega) (by omega)).mp c25
        refine lv_iinc (v := nI (i + 1)) (lv' := [(4, .int (nI (i + 1))), (5, .ref (ads i)), (3, .int (nI n)), (2, .ref q), (0, .ref q), (1, .int (nI g))]) hx hb dX4_isIn_38 hl (k := 1) rfl (inc_1 _) (by decide) rfl (fun ls hl => ?_)
        refine lv_goto (tgt := 8) hx hb dX4_isIn_41 (by decide) ?_
        exact hnext _ _ _ ⟨rfl, rfl, lv_sub hl [0, 2, 3, 4, 5] rfl, (by intro k hk; rcases Nat.lt_succ_iff_lt_or_eq.mp hk with q9 | rfl; exact hin k q9; omega)⟩
      · skip
        have c25 : ¬ (g < a i) := fun q9 => c25 ((nc_lt (a := g) (b := a i) (by omega) (by omega)).mpr q9)
        refine lv_iload_n hx hb dX4_isIn_28 rfl (lv_at hl 5 rfl) ?_
        refine lv_aload hx hb dX4_isIn_29 (lv_at hl 0 rfl) ?_
        refine lv_iconst (v := nI 1) hx hb dX4_isIn_31 (by decide) ?_
        refine q_iald hx hb hK (hil.2 i (by omega)).2 1 (rfl) (by omega) (by decide) dX4_isIn_32 ?_
        refine W.eq (g2 := F0 m 33 ls [.int (nI (b i)), .int (nI g)]) rfl ?_
        refine lv_icmp_gt (tgt := 38) hx hb dX4_isIn_33 (by decide) (fun c33 => ?_) (fun c33 => ?_)
        · skip
          have c33 : b i < g := (nc_lt (a := b i) (b := g) (by omega) (by omega)).mp c33
          refine lv_iinc (v := nI (i + 1)) (lv' := [(4, .int (nI (i + 1))), (5, .ref (ads i)), (3, .int (nI n)), (2, .ref q), (0, .ref q), (1, .int (nI g))]) hx hb dX4_isIn_38 hl (k := 1) rfl (inc_1 _) (by decide) rfl (fun ls hl => ?_)
          refine lv_goto (tgt := 8) hx hb dX4_isIn_41 (by decide) ?_
          exact hnext _ _ _ ⟨rfl, rfl, lv_sub hl [0, 2, 3, 4, 5] rfl, (by intro k hk; rcases Nat.lt_succ_iff_lt_or_eq.mp hk with q9 | rfl; exact hin k q9; omega)⟩
        · skip
          have c33 : ¬ (b i < g) := fun q9 => c33 ((nc_lt (a := b i) (b := g) (by omega) (by omega)).mpr q9)
          refine lv_iconst (v := nI 1) hx hb dX4_isIn_36 (by decide) ?_
          exact W.zret (v := nI 1) hx hb hr (rfl) (fun t ht _ => ⟨nI 1, rfl, by exact Or.inl ⟨rfl, i, by omega, by omega, by omega⟩, ht⟩) (fun q hq => absurd hq List.not_mem_nil) dX4_isIn_37
  · skip
    intro H locs ls hin9
    obtain ⟨rfl, rfl, hl, hin⟩ := hin9
    refine lv_iload hx hb dX4_isIn_8 (lv_at hl 0 rfl) ?_
    refine lv_iload_n hx hb dX4_isIn_10 rfl (lv_at hl 1 rfl) ?_
    refine lv_icmp_ge (tgt := 44) hx hb dX4_isIn_11 (by decide) (fun c11 => ?_) (fun c11 => ?_)
    · skip
      have c11 : n ≤ n := (nc_le (a := n) (b := n) (by omega) (by omega)).mp c11
      refine lv_iconst (v := nI 0) hx hb dX4_isIn_44 (by decide) ?_
      exact W.zret (v := nI 0) hx hb hr (rfl) (fun t ht _ => ⟨nI 0, rfl, by exact Or.inr ⟨rfl, fun ⟨k, h1, h2⟩ => hin k h1 h2⟩, ht⟩) (fun q hq => absurd hq List.not_mem_nil) dX4_isIn_45
    · skip
      have c11 : ¬ (n ≤ n) := fun q9 => c11 ((nc_le (a := n) (b := n) (by omega) (by omega)).mpr q9)
      omega

set_option maxHeartbeats 4000000 in
set_option maxRecDepth 100000 in
theorem conX4_count (l : Launch) (D : va_G) (T : Nat → ClassId) (w q : Nat) (ads : Nat → Nat) (n : Nat) (a b : Nat → Nat) (hS : ∀ k : Nat, k < n → a k ≤ b k ∧ b k ≤ 200) (hn : n ≤ 101) : Met l yX4_count wsX4_count ({ frames := 0, cells := 0, slots := 0, locals := 0 }) (cP D T [.ref q] (fun H => ILA D T w q ads n a b H)) (vp_Si (fun r => r = nI (cntS a b n))) 0 0 (fun _ => False) := by
  refine Met.ofW (cc := cX4_count) (maxL := 6) (ret := (some .int)) (by decide) rfl ?_
  intro p e s m args below meth c s₁ B hml hv9
  obtain ⟨rfl, hK, hil⟩ := hv9
  have hx := B.exec
  have hb := B.bytes
  have hr := B.returns
  have hts := atoms_spec (ws := wsX4_count) B.pre
  have hown : s.vm.findClass RX4 = some m.cls := findClass_of_methodNamed B.named
  have hlocks := B.notSynchronized
  have hl := lv_entry ([.ref q]) (n := 6) (Nat.le_of_ble_eq_true rfl)
  rw [lg_entry_eq]
  generalize (lg_sl ([.ref q]) ++ List.replicate (6 - (lg_sl ([.ref q])).length) Slot.unset).toArray = ls at hl ⊢
  have hl : lv_has ls 6 [(0, .ref q)] := hl
  refine lv_iconst (v := nI 0) hx hb dX4_count_0 (by decide) ?_
  refine lv_istore_n (lv' := [(1, .int (nI 0)), (0, .ref q)]) hx hb dX4_count_1 rfl hl (by decide) rfl (fun ls hl => ?_)
  refine lv_aload_n hx hb dX4_count_2 rfl (lv_at hl 1 rfl) ?_
  refine lv_astore_n (lv' := [(2, .ref q), (1, .int (nI 0)), (0, .ref q)]) hx hb dX4_count_3 rfl hl (by decide) rfl (fun ls hl => ?_)
  refine lv_aload_n hx hb dX4_count_4 rfl (lv_at hl 0 rfl) ?_
  refine q_len hx hb hK 5 rfl hil.1 dX4_count_5 ?_
  refine lv_istore_n (lv' := [(3, .int (nI n)), (2, .ref q), (1, .int (nI 0)), (0, .ref q)]) hx hb dX4_count_6 rfl hl (by decide) rfl (fun ls hl => ?_)
  refine lv_iconst (v := nI 0) hx hb dX4_count_7 (by decide) ?_
  refine lv_istore (lv' := [(4, .int (nI 0)), (3, .int (nI n)), (2, .ref q), (1, .int (nI 0)), (0, .ref q)]) hx hb dX4_count_8 hl (by decide) rfl (fun ls hl => ?_)
  refine q_for (fun (i : Nat) (H : Heap) (locs : List Loc) (ls : Array Slot) => H = s.heap ∧ locs = [] ∧ lv_has ls 6 [(4, .int (nI i)), (3, .int (nI n)), (2, .ref q), (1, .int (nI (cntS a b i))), (0, .ref q)]) (N := n) 0 (by omega) ?_ ?_ ?_
  · skip
    have e1 : nI 0 = nI (cntS a b 0) := by rfl
    exact ⟨rfl, rfl, lv_sub (lv_ex hl 3 rfl (congrArg Value.int e1)) [0, 1, 2, 3, 4] rfl⟩
  · skip
    intro i H locs ls hi9 hin9 hnext
    obtain ⟨rfl, rfl, hl⟩ := hin9
    refine lv_iload hx hb dX4_count_10 (lv_at hl 0 rfl) ?_
    refine lv_iload_n hx hb dX4_count_12 rfl (lv_at hl 1 rfl) ?_
    refine lv_icmp_ge (tgt := 42) hx hb dX4_count_13 (by decide) (fun c13 => ?_) (fun c13 => ?_)
    · skip
      have c13 : n ≤ i := (nc_le (a := n) (b := i) (by omega) (by omega)).mp c13
      omega
    · skip
      have c13 : ¬ (n ≤ i) := fun q9 => c13 ((nc_le (a := n) (b := i) (by omega) (by omega)).mpr q9)
      have hs9 := hS i (by omega)
      refine lv_aload_n hx hb dX4_count_16 rfl (lv_at hl 2 rfl) ?_
      refine lv_iload hx hb dX4_count_17 (lv_at hl 0 rfl) ?_
      refine q_aald hx hb hK 5 rfl rfl hil.1 i rfl (by omega) (by omega) (b := ads i) rfl dX4_count_19 ?_
      refine lv_astore (lv' := [(5, .ref (ads i)), (4, .int (nI i)), (3, .int (nI n)), (2, .ref q), (1, .int (nI (cntS a b i))), (0, .ref q)]) hx hb dX4_count_20 hl (by decide) rfl (fun ls hl => ?_)
      refine lv_iload_n hx hb dX4_count_22 rfl (lv_at hl 4 rfl) ?_
      refine lv_aload hx hb dX4_count_23 (lv_at hl 0 rfl) ?_
      refine lv_iconst (v := nI 1) hx hb dX4_count_25 (by decide) ?_
      refine q_iald hx hb hK (hil.2 i (by omega)).2 1 (rfl) (by omega) (by decide) dX4_count_26 ?_
      refine W.eq (g2 := F0 m 27 ls [.int (nI (b i)), .int (nI (cntS a b i))]) rfl ?_
      refine lv_aload hx hb dX4_count_27 (lv_at hl 0 rfl) ?_
      refine lv_iconst (v := nI 0) hx hb dX4_count_29 (by decide) ?_
      refine q_iald hx hb hK (hil.2 i (by omega)).2 0 (rfl) (by omega) (by decide) dX4_count_30 ?_
      refine W.eq (g2 := F0 m 31 ls [.int (nI (a i)), .int (nI (b i)), .int (nI (cntS a b i))]) rfl ?_
      refine lv_isub hx hb dX4_count_31 ?_
      rw [pk_sub (a := b i) (b := a i) (by omega)]
      refine lv_iconst (v := nI 1) hx hb dX4_count_32 (by decide) ?_
      refine lv_iadd hx hb dX4_count_33 ?_
      rw [nI_add]
      refine lv_iadd hx hb dX4_count_34 ?_
      rw [nI_add]
      refine lv_istore_n (lv' := [(1, .int (nI (cntS a b i + (((b i) - (a i)) + 1)))), (5, .ref (ads i)), (4, .int (nI i)), (3, .int (nI n)), (2, .ref q), (0, .ref q)]) hx hb dX4_count_35 rfl hl (by decide) rfl (fun ls hl => ?_)
      refine lv_iinc (v := nI (i + 1)) (lv' := [(4, .int (nI (i + 1))), (1, .int (nI (cntS a b i + (((b i) - (a i)) + 1)))), (5, .ref (ads i)), (3, .int (nI n)), (2, .ref q), (0, .ref q)]) hx hb dX4_count_36 hl (k := 2) rfl (inc_1 _) (by decide) rfl (fun ls hl => ?_)
      refine lv_goto (tgt := 10) hx hb dX4_count_39 (by decide) ?_
      have e2 : nI (cntS a b i + (((b i) - (a i)) + 1)) = nI (cntS a b (i + 1)) := by (rw [cntS_s])
      exact hnext _ _ _ ⟨rfl, rfl, lv_sub (lv_ex hl 1 rfl (congrArg Value.int e2)) [0, 3, 4, 1, 5] rfl⟩
  · skip
    intro H locs ls hin9
    obtain ⟨rfl, rfl, hl⟩ := hin9
    refine lv_iload hx hb dX4_count_10 (lv_at hl 0 rfl) ?_
    refine lv_iload_n hx hb dX4_count_12 rfl (lv_at hl 1 rfl) ?_
    refine lv_icmp_ge (tgt := 42) hx hb dX4_count_13 (by decide) (fun c13 => ?_) (fun c13 => ?_)
    · skip
      have c13 : n ≤ n := (nc_le (a := n) (b := n) (by omega) (by omega)).mp c13
      refine lv_iload_n hx hb dX4_count_42 rfl (lv_at hl 3 rfl) ?_
      exact W.iret (v := nI (cntS a b n)) hx hb hr (fun t ht _ => ⟨nI (cntS a b n), rfl, by rfl, ht⟩) (fun q hq => absurd hq List.not_mem_nil) dX4_count_43
    · skip
      have c13 : ¬ (n ≤ n) := fun q9 => c13 ((nc_le (a := n) (b := n) (by omega) (by omega)).mpr q9)
      omega

set_option maxHeartbeats 4000000 in
set_option maxRecDepth 100000 in
theorem conX4_begin (l : Launch) (D : va_G) (T : Nat → ClassId) (q x y : Nat) (hy : y ≤ 200) (hx : x ≤ y) : Met l yX4_begin wsX4_begin ({ frames := 0, cells := 0, slots := 0, locals := 0 }) (cP D T [.ref q] (fun H => pAt D H q (eN (T 1) 2 (pr2 x y)))) (vp_Si (fun r => r = nI (x / 2))) 0 0 (fun _ => False) := by
  refine Met.ofW (cc := cX4_begin) (maxL := 1) (ret := (some .int)) (by decide) rfl ?_
  intro p e s m args below meth c s₁ B hml hv9
  obtain ⟨rfl, hK, hp⟩ := hv9
  have hx := B.exec
  have hb := B.bytes
  have hr := B.returns
  have hts := atoms_spec (ws := wsX4_begin) B.pre
  have hown : s.vm.findClass RX4 = some m.cls := findClass_of_methodNamed B.named
  have hlocks := B.notSynchronized
  have hl := lv_entry ([.ref q]) (n := 1) (Nat.le_of_ble_eq_true rfl)
  rw [lg_entry_eq]
  generalize (lg_sl ([.ref q]) ++ List.replicate (1 - (lg_sl ([.ref q])).length) Slot.unset).toArray = ls at hl ⊢
  have hl : lv_has ls 1 [(0, .ref q)] := hl
  refine lv_aload_n hx hb dX4_begin_0 rfl (lv_at hl 0 rfl) ?_
  refine lv_iconst (v := nI 0) hx hb dX4_begin_1 (by decide) ?_
  refine q_iald hx hb hK hp 0 (rfl) (by omega) (by decide) dX4_begin_2 ?_
  refine W.eq (g2 := F0 m 3 ls [.int (nI x)]) rfl ?_
  refine lv_iconst (v := nI 2) hx hb dX4_begin_3 (by decide) ?_
  refine lv_idiv hx hb dX4_begin_4 (by decide) ?_
  rw [pk_div (a := x) (d := 2) (by omega) (by omega) (by omega)]
  exact W.iret (v := nI (x / 2)) hx hb hr (fun t ht _ => ⟨nI (x / 2), rfl, by rfl, ht⟩) (fun q hq => absurd hq List.not_mem_nil) dX4_begin_5

set_option maxHeartbeats 4000000 in
set_option maxRecDepth 100000 in
theorem conX4_end (l : Launch) (D : va_G) (T : Nat → ClassId) (q x y : Nat) (hy : y ≤ 200) (hx : x ≤ y) : Met l yX4_end wsX4_end ({ frames := 0, cells := 0, slots := 0, locals := 0 }) (cP D T [.ref q] (fun H => pAt D H q (eN (T 1) 2 (pr2 x y)))) (vp_Si (fun r => r = nI (endN y))) 0 0 (fun _ => False) := by
  refine Met.ofW (cc := cX4_end) (maxL := 1) (ret := (some .int)) (by decide) rfl ?_
  intro p e s m args below meth c s₁ B hml hv9
  obtain ⟨rfl, hK, hp⟩ := hv9
  have hx := B.exec
  have hb := B.bytes
  have hr := B.returns
  have hts := atoms_spec (ws := wsX4_end) B.pre
  have hown : s.vm.findClass RX4 = some m.cls := findClass_of_methodNamed B.named
  have hlocks := B.notSynchronized
  have hl := lv_entry ([.ref q]) (n := 1) (Nat.le_of_ble_eq_true rfl)
  rw [lg_entry_eq]
  generalize (lg_sl ([.ref q]) ++ List.replicate (1 - (lg_sl ([.ref q])).length) Slot.unset).toArray = ls at hl ⊢
  have hl : lv_has ls 1 [(0, .ref q)] := hl
  refine lv_aload_n hx hb dX4_end_0 rfl (lv_at hl 0 rfl) ?_
  refine lv_iconst (v := nI 1) hx hb dX4_end_1 (by decide) ?_
  refine q_iald hx hb hK hp 1 (rfl) (by omega) (by decide) dX4_end_2 ?_
  refine W.eq (g2 := F0 m 3 ls [.int (nI y)]) rfl ?_
  refine lv_iconst (v := nI 2) hx hb dX4_end_3 (by decide) ?_
  refine lv_irem hx hb dX4_end_4 (by decide) ?_
  rw [pk_rem (a := y) (d := 2) (by omega) (by omega) (by omega)]
  refine lv_if_ne (tgt := 16) hx hb dX4_end_5 (by decide) (fun c5 => ?_) (fun c5 => ?_)
  · skip
    have c5 : ¬ (y % 2 = 0) := fun q9 => c5 ((nc_eq (a := y % 2) (b := 0) (by omega) (by omega)).mpr q9)
    refine lv_aload_n hx hb dX4_end_16 rfl (lv_at hl 0 rfl) ?_
    refine lv_iconst (v := nI 1) hx hb dX4_end_17 (by decide) ?_
    refine q_iald hx hb hK hp 1 (rfl) (by omega) (by decide) dX4_end_18 ?_
    refine W.eq (g2 := F0 m 19 ls [.int (nI y)]) rfl ?_
    refine lv_iconst (v := nI 2) hx hb dX4_end_19 (by decide) ?_
    refine lv_idiv hx hb dX4_end_20 (by decide) ?_
    rw [pk_div (a := y) (d := 2) (by omega) (by omega) (by omega)]
    refine lv_iconst (v := nI 1) hx hb dX4_end_21 (by decide) ?_
    refine lv_iadd hx hb dX4_end_22 ?_
    rw [nI_add]
    exact W.iret (v := nI ((y / 2) + 1)) hx hb hr (fun t ht _ => ⟨nI ((y / 2) + 1), rfl, by (congr 1; unfold endN; omega), ht⟩) (fun q hq => absurd hq List.not_mem_nil) dX4_end_23
  · skip
    have c5 : y % 2 = 0 := (nc_eq (a := y % 2) (b := 0) (by omega) (by omega)).mp c5
    refine lv_aload_n hx hb dX4_end_8 rfl (lv_at hl 0 rfl) ?_
    refine lv_iconst (v := nI 1) hx hb dX4_end_9 (by decide) ?_
    refine q_iald hx hb hK hp 1 (rfl) (by omega) (by decide) dX4_end_10 ?_
    refine W.eq (g2 := F0 m 11 ls [.int (nI y)]) rfl ?_
    refine lv_iconst (v := nI 2) hx hb dX4_end_11 (by decide) ?_
    refine lv_idiv hx hb dX4_end_12 (by decide) ?_
    rw [pk_div (a := y) (d := 2) (by omega) (by omega) (by omega)]
    refine lv_goto (tgt := 23) hx hb dX4_end_13 (by decide) ?_
    exact W.iret (v := nI (y / 2)) hx hb hr (fun t ht _ => ⟨nI (y / 2), rfl, by (congr 1; unfold endN; omega), ht⟩) (fun q hq => absurd hq List.not_mem_nil) dX4_end_23

set_option maxHeartbeats 4000000 in
set_option maxRecDepth 100000 in
theorem conX4_steps (l : Launch) (D : va_G) (T : Nat → ClassId) (q : Nat) (f : Nat → Int32) : Met l yX4_steps wsX4_steps ({ frames := 0, cells := 0, slots := 0, locals := 0 }) (cP D T [.ref q] (fun H => pAt D H q (eN (T 1) 201 f))) (vp_Si (fun r => r = stpS f 200)) 0 0 (fun _ => False) := by
  refine Met.ofW (cc := cX4_steps) (maxL := 3) (ret := (some .int)) (by decide) rfl ?_
  intro p e s m args below meth c s₁ B hml hv9
  obtain ⟨rfl, hK, hp⟩ := hv9
  have hx := B.exec
  have hb := B.bytes
  have hr := B.returns
  have hts := atoms_spec (ws := wsX4_steps) B.pre
  have hown : s.vm.findClass RX4 = some m.cls := findClass_of_methodNamed B.named
  have hlocks := B.notSynchronized
  have hl := lv_entry ([.ref q]) (n := 3) (Nat.le_of_ble_eq_true rfl)
  rw [lg_entry_eq]
  generalize (lg_sl ([.ref q]) ++ List.replicate (3 - (lg_sl ([.ref q])).length) Slot.unset).toArray = ls at hl ⊢
  have hl : lv_has ls 3 [(0, .ref q)] := hl
  refine lv_iconst (v := nI 1) hx hb dX4_steps_0 (by decide) ?_
  refine lv_istore_n (lv' := [(1, .int (nI 1)), (0, .ref q)]) hx hb dX4_steps_1 rfl hl (by decide) rfl (fun ls hl => ?_)
  refine lv_sipush (v := nI 200) hx hb dX4_steps_2 (by decide) ?_
  refine lv_istore_n (lv' := [(2, .int (nI 200)), (1, .int (nI 1)), (0, .ref q)]) hx hb dX4_steps_5 rfl hl (by decide) rfl (fun ls hl => ?_)
  refine q_for (fun (i : Nat) (H : Heap) (locs : List Loc) (ls : Array Slot) => H = s.heap ∧ locs = [] ∧ lv_has ls 3 [(2, .int (nI (200 - i))), (1, .int (stpS f i)), (0, .ref q)]) (N := 200) 0 (by omega) ?_ ?_ ?_
  · skip
    have e1 : nI 200 = nI (200 - 0) := by rfl
    have e2 : nI 1 = stpS f 0 := by rfl
    exact ⟨rfl, rfl, lv_sub (lv_ex (lv_ex hl 0 rfl (congrArg Value.int e1)) 1 rfl (congrArg Value.int e2)) [0, 1, 2] rfl⟩
  · skip
    intro i H locs ls hi9 hin9 hnext
    obtain ⟨rfl, rfl, hl⟩ := hin9
    refine lv_iload_n hx hb dX4_steps_6 rfl (lv_at hl 0 rfl) ?_
    refine lv_if_le (tgt := 30) hx hb dX4_steps_7 (by decide) (fun c7 => ?_) (fun c7 => ?_)
    · skip
      have c7 : 200 - i ≤ 0 := (nc_le (a := 200 - i) (b := 0) (by omega) (by omega)).mp c7
      omega
    · skip
      have c7 : ¬ (200 - i ≤ 0) := fun q9 => c7 ((nc_le (a := 200 - i) (b := 0) (by omega) (by omega)).mpr q9)
      refine lv_aload_n hx hb dX4_steps_10 rfl (lv_at hl 2 rfl) ?_
      refine lv_iload_n hx hb dX4_steps_11 rfl (lv_at hl 0 rfl) ?_
      refine q_iald hx hb hK hp (200 - i) (rfl) (by omega) (by decide) dX4_steps_12 ?_
      refine lv_aload_n hx hb dX4_steps_13 rfl (lv_at hl 2 rfl) ?_
      refine lv_iload_n hx hb dX4_steps_14 rfl (lv_at hl 0 rfl) ?_
      refine lv_iconst (v := nI 1) hx hb dX4_steps_15 (by decide) ?_
      refine lv_isub hx hb dX4_steps_16 ?_
      rw [pk_sub (a := 200 - i) (b := 1) (by omega)]
      refine q_iald hx hb hK hp ((200 - i) - 1) (rfl) (by omega) (by decide) dX4_steps_17 ?_
      refine lv_icmp_eq (tgt := 24) hx hb dX4_steps_18 (by decide) (fun c18 => ?_) (fun c18 => ?_)
      · skip
        refine lv_iinc (v := (nI (200 - i)) + (-1)) (lv' := [(2, .int ((nI (200 - i)) + (-1))), (1, .int (stpS f i)), (0, .ref q)]) hx hb dX4_steps_24 hl (k := 0) rfl (rfl) (by decide) rfl (fun ls hl => ?_)
        refine lv_goto (tgt := 6) hx hb dX4_steps_27 (by decide) ?_
        have e3 : (nI (200 - i)) + (-1) = nI (200 - (i + 1)) := by (exact dec_n (by omega))
        have e4 : stpS f i = stpS f (i + 1) := by first | (rw [stpS_s, if_pos c18]; done) | (rw [stpS_s, if_neg c18]; done)
        exact hnext _ _ _ ⟨rfl, rfl, lv_sub (lv_ex (lv_ex hl 0 rfl (congrArg Value.int e3)) 1 rfl (congrArg Value.int e4)) [0, 1, 2] rfl⟩
      · skip
        refine lv_iinc (v := (stpS f i) + 1) (lv' := [(1, .int ((stpS f i) + 1)), (2, .int (nI (200 - i))), (0, .ref q)]) hx hb dX4_steps_21 hl (k := 1) rfl (rfl) (by decide) rfl (fun ls hl => ?_)
        refine lv_iinc (v := (nI (200 - i)) + (-1)) (lv' := [(2, .int ((nI (200 - i)) + (-1))), (1, .int ((stpS f i) + 1)), (0, .ref q)]) hx hb dX4_steps_24 hl (k := 1) rfl (rfl) (by decide) rfl (fun ls hl => ?_)
        refine lv_goto (tgt := 6) hx hb dX4_steps_27 (by decide) ?_
        have e5 : (nI (200 - i)) + (-1) = nI (200 - (i + 1)) := by (exact dec_n (by omega))
        have e6 : (stpS f i) + 1 = stpS f (i + 1) := by first | (rw [stpS_s, if_pos c18]; done) | (rw [stpS_s, if_neg c18]; done)
        exact hnext _ _ _ ⟨rfl, rfl, lv_sub (lv_ex (lv_ex hl 0 rfl (congrArg Value.int e5)) 1 rfl (congrArg Value.int e6)) [0, 1, 2] rfl⟩
  · skip
    intro H locs ls hin9
    obtain ⟨rfl, rfl, hl⟩ := hin9
    refine lv_iload_n hx hb dX4_steps_6 rfl (lv_at hl 0 rfl) ?_
    refine lv_if_le (tgt := 30) hx hb dX4_steps_7 (by decide) (fun c7 => ?_) (fun c7 => ?_)
    · skip
      have c7 : 200 - 200 ≤ 0 := (nc_le (a := 200 - 200) (b := 0) (by omega) (by omega)).mp c7
      refine lv_iload_n hx hb dX4_steps_30 rfl (lv_at hl 1 rfl) ?_
      exact W.iret (v := stpS f 200) hx hb hr (fun t ht _ => ⟨stpS f 200, rfl, by rfl, ht⟩) (fun q hq => absurd hq List.not_mem_nil) dX4_steps_31
    · skip
      have c7 : ¬ (200 - 200 ≤ 0) := fun q9 => c7 ((nc_le (a := 200 - 200) (b := 0) (by omega) (by omega)).mpr q9)
      omega

set_option maxHeartbeats 4000000 in
set_option maxRecDepth 100000 in
theorem conX4_kept (l : Launch) (D : va_G) (T : Nat → ClassId) (x : Int32) : Met l yX4_kept wsX4_kept ({ frames := 0, cells := 0, slots := 0, locals := 0 }) (cP D T [.int x] (fun H => True)) (vp_Si (fun r => r = kepS x)) 0 0 (fun _ => False) := by
  refine Met.ofW (cc := cX4_kept) (maxL := 1) (ret := (some .int)) (by decide) rfl ?_
  intro p e s m args below meth c s₁ B hml hv9
  obtain ⟨rfl, hK, -⟩ := hv9
  have hx := B.exec
  have hb := B.bytes
  have hr := B.returns
  have hts := atoms_spec (ws := wsX4_kept) B.pre
  have hown : s.vm.findClass RX4 = some m.cls := findClass_of_methodNamed B.named
  have hlocks := B.notSynchronized
  have hl := lv_entry ([.int x]) (n := 1) (Nat.le_of_ble_eq_true rfl)
  rw [lg_entry_eq]
  generalize (lg_sl ([.int x]) ++ List.replicate (1 - (lg_sl ([.int x])).length) Slot.unset).toArray = ls at hl ⊢
  have hl : lv_has ls 1 [(0, .int x)] := hl
  refine lv_iload_n hx hb dX4_kept_0 rfl (lv_at hl 0 rfl) ?_
  refine lv_sipush (v := nI 10000) hx hb dX4_kept_1 (by decide) ?_
  refine lv_icmp_le (tgt := 13) hx hb dX4_kept_4 (by decide) (fun c4 => ?_) (fun c4 => ?_)
  · skip
    refine lv_iload_n hx hb dX4_kept_13 rfl (lv_at hl 0 rfl) ?_
    refine lv_sipush (v := (-10000)) hx hb dX4_kept_14 (by decide) ?_
    refine lv_icmp_ge (tgt := 26) hx hb dX4_kept_17 (by decide) (fun c17 => ?_) (fun c17 => ?_)
    · skip
      refine lv_iload_n hx hb dX4_kept_26 rfl (lv_at hl 0 rfl) ?_
      exact W.iret (v := x) hx hb hr (fun t ht _ => ⟨x, rfl, by first | exact ((if_pos c4).trans (if_pos c17)).symm | exact ((if_pos c4).trans (if_neg c17)).symm | exact (if_neg c4).symm, ht⟩) (fun q hq => absurd hq List.not_mem_nil) dX4_kept_27
    · skip
      refine lv_sipush (v := (-10000)) hx hb dX4_kept_20 (by decide) ?_
      refine lv_goto (tgt := 27) hx hb dX4_kept_23 (by decide) ?_
      exact W.iret (v := (-10000)) hx hb hr (fun t ht _ => ⟨(-10000), rfl, by first | exact ((if_pos c4).trans (if_pos c17)).symm | exact ((if_pos c4).trans (if_neg c17)).symm | exact (if_neg c4).symm, ht⟩) (fun q hq => absurd hq List.not_mem_nil) dX4_kept_27
  · skip
    refine lv_sipush (v := nI 10000) hx hb dX4_kept_7 (by decide) ?_
    refine lv_goto (tgt := 27) hx hb dX4_kept_10 (by decide) ?_
    exact W.iret (v := nI 10000) hx hb hr (fun t ht _ => ⟨nI 10000, rfl, by first | exact ((if_pos c4).trans (if_pos c17)).symm | exact ((if_pos c4).trans (if_neg c17)).symm | exact (if_neg c4).symm, ht⟩) (fun q hq => absurd hq List.not_mem_nil) dX4_kept_27
