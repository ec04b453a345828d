set_option maxHeartbeats 4000000 in
set_option maxRecDepth 100000 in
theorem conX1_begin (l : Launch) (D : va_G) (T : Nat → ClassId) (h fi la : Nat) (F L : Nat → Int32) (n : Nat) (hd : h ≠ fi ∧ h ≠ la ∧ fi ≠ la) (hn : n ≤ 201) (g : Int32) : Met l yX1_begin wsX1_begin ({ frames := 0, cells := 0, slots := 0, locals := 0 }) (cP D T [.ref h, .int g] (fun H => SR D T h fi la (F, L, n) H)) (va_Qv (fun (_ : Unit) => True) (fun _ t => SR D T h fi la (bgnR (F, L, n) g) t.heap) (fun q : Nat => q = h ∨ q = fi ∨ q = la)) 0 0 (fun q : Nat => q = h ∨ q = fi ∨ q = la) := by
  refine Met.ofW (cc := cX1_begin) (maxL := 2) (ret := none) (by decide) rfl ?_
  intro p e s m args below meth c s₁ B hml hv9
  obtain ⟨rfl, hK, hh, hf, hla⟩ := hv9
  have hx := B.exec
  have hb := B.bytes
  have hr := B.returns
  have hts := atoms_spec (ws := wsX1_begin) B.pre
  have hown : s.vm.findClass RX1 = some m.cls := findClass_of_methodNamed B.named
  have hlocks := B.notSynchronized
  have hin1 : ∀ w ∈ wsX10, w ∈ wsX1_begin := by decide +kernel
  generalize hAe : (fun q : Nat => q = h ∨ q = fi ∨ q = la) = A
  have hA_h : A h := by subst hAe; first | rfl | exact Or.inl rfl | exact Or.inr rfl | (simp; done)
  have hA_fi : A fi := by subst hAe; first | rfl | exact Or.inl rfl | exact Or.inr rfl | (simp; done)
  have hA_la : A la := by subst hAe; first | rfl | exact Or.inl rfl | exact Or.inr rfl | (simp; done)
  have hS : va_S A s.heap s.heap [] := va_S.rf
  have hl := lv_entry ([.ref h, .int g]) (n := 2) (Nat.le_of_ble_eq_true rfl)
  rw [lg_entry_eq]
  generalize (lg_sl ([.ref h, .int g]) ++ List.replicate (2 - (lg_sl ([.ref h, .int g])).length) Slot.unset).toArray = ls at hl ⊢
  have hl : lv_has ls 2 [(0, .ref h), (1, .int g)] := hl
  refine lv_aload_n hx hb dX1_begin_0 rfl (lv_at hl 0 rfl) ?_
  refine q_get (v := .int (nI n)) hx hb hts hin1 hown hK hh rfl 2 (by decide) (hts (.fieldLink RX1 18 "PuddingstoneLine$SpanRow" "size" "I") (by decide +kernel)) (fun _ h9 => h9) rfl dX1_begin_1 ?_
  refine lv_aload_n hx hb dX1_begin_4 rfl (lv_at hl 0 rfl) ?_
  refine q_get (v := .ref fi) hx hb hts hin1 hown hK hh rfl 0 (by decide) (hts (.fieldLink RX1 9 "PuddingstoneLine$SpanRow" "firsts" "[I") (by decide +kernel)) (fun _ h9 => h9) rfl dX1_begin_5 ?_
  refine q_len hx hb hK 1 rfl hf dX1_begin_8 ?_
  refine lv_icmp_ge (tgt := 32) hx hb dX1_begin_9 (by decide) (fun c9 => ?_) (fun c9 => ?_)
  · skip
    have c9 : 201 ≤ n := (nc_le (a := 201) (b := n) (by omega) (by omega)).mp c9
    exact W.vret hx hb hr (fun t ht _ => ⟨⟨(), rfl, trivial, by dsimp only; rw [ht]; exact (by rw [bgnR, if_pos c9]; exact ⟨hh, hf, hla⟩)⟩, hS.F ht⟩) hS.2.2 dX1_begin_32
  · skip
    have c9 : ¬ (201 ≤ n) := fun q9 => c9 ((nc_le (a := 201) (b := n) (by omega) (by omega)).mpr q9)
    refine lv_aload_n hx hb dX1_begin_12 rfl (lv_at hl 0 rfl) ?_
    refine q_get (v := .ref fi) hx hb hts hin1 hown hK hh rfl 0 (by decide) (hts (.fieldLink RX1 9 "PuddingstoneLine$SpanRow" "firsts" "[I") (by decide +kernel)) (fun _ h9 => h9) rfl dX1_begin_13 ?_
    refine lv_aload_n hx hb dX1_begin_16 rfl (lv_at hl 0 rfl) ?_
    refine q_get (v := .int (nI n)) hx hb hts hin1 hown hK hh rfl 2 (by decide) (hts (.fieldLink RX1 18 "PuddingstoneLine$SpanRow" "size" "I") (by decide +kernel)) (fun _ h9 => h9) rfl dX1_begin_17 ?_
    refine lv_iload_n hx hb dX1_begin_20 rfl (lv_at hl 1 rfl) ?_
    refine q_iast hx hb hK hf n (rfl) (by omega) (by decide) hS (hA_fi) dX1_begin_21 (fun H1 locs1 hw9 hz oq hS => ?_)
    replace hh := hh.ne oq (hd.1)
    replace hla := hla.ne oq ((hd.2.2).symm)
    have hf := hw9
    refine lv_aload_n hx hb dX1_begin_22 rfl (lv_at hl 0 rfl) ?_
    refine lv_dup hx hb dX1_begin_23 rfl ?_
    refine q_get (v := .int (nI n)) hx hb hts hin1 hown hK hh rfl 2 (by decide) (hts (.fieldLink RX1 18 "PuddingstoneLine$SpanRow" "size" "I") (by decide +kernel)) (fun _ h9 => h9) rfl dX1_begin_24 ?_
    refine lv_iconst (v := nI 1) hx hb dX1_begin_27 (by decide) ?_
    refine lv_iadd hx hb dX1_begin_28 ?_
    rw [nI_add]
    refine q_put (v := .int (nI (n + 1))) hx hb hts hin1 tyX1 tyX1_ok nmX1 hown hK hh rfl 2 (by decide) (hts (.fieldLink RX1 18 "PuddingstoneLine$SpanRow" "size" "I") (by decide +kernel)) (fun _ h9 => h9) rfl rfl rfl (Nat.le_of_ble_eq_true rfl) hS (hA_h) dX1_begin_29 (fun H1 locs1 hw9 oq hS => ?_)
    replace hf := hf.ne oq ((hd.1).symm)
    replace hla := hla.ne oq ((hd.2.1).symm)
    have hh := hw9
    exact W.vret hx hb hr (fun t ht _ => ⟨⟨(), rfl, trivial, by dsimp only; rw [ht]; exact (by rw [bgnR, if_neg c9]; exact ⟨hh, hf, hla⟩)⟩, hS.F ht⟩) hS.2.2 dX1_begin_32

set_option maxHeartbeats 4000000 in
set_option maxRecDepth 100000 in
theorem conX1_extend (l : Launch) (D : va_G) (T : Nat → ClassId) (h fi la : Nat) (F L : Nat → Int32) (n : Nat) (hd : h ≠ fi ∧ h ≠ la ∧ fi ≠ la) (hn : n ≤ 201) (g : Int32) : Met l yX1_extend wsX1_extend ({ frames := 0, cells := 0, slots := 0, locals := 0 }) (cP D T [.ref h, .int g] (fun H => SR D T h fi la (F, L, n) H)) (va_Qv (fun (_ : Unit) => True) (fun _ t => SR D T h fi la (extR (F, L, n) g) t.heap) (fun q : Nat => q = h ∨ q = fi ∨ q = la)) 0 0 (fun q : Nat => q = h ∨ q = fi ∨ q = la) := by
  refine Met.ofW (cc := cX1_extend) (maxL := 2) (ret := none) (by decide) rfl ?_
  intro p e s m args below meth c s₁ B hml hv9
  obtain ⟨rfl, hK, hh, hf, hla⟩ := hv9
  have hx := B.exec
  have hb := B.bytes
  have hr := B.returns
  have hts := atoms_spec (ws := wsX1_extend) B.pre
  have hown : s.vm.findClass RX1 = some m.cls := findClass_of_methodNamed B.named
  have hlocks := B.notSynchronized
  have hin1 : ∀ w ∈ wsX10, w ∈ wsX1_extend := by decide +kernel
  generalize hAe : (fun q : Nat => q = h ∨ q = fi ∨ q = la) = A
  have hA_h : A h := by subst hAe; first | rfl | exact Or.inl rfl | exact Or.inr rfl | (simp; done)
  have hA_fi : A fi := by subst hAe; first | rfl | exact Or.inl rfl | exact Or.inr rfl | (simp; done)
  have hA_la : A la := by subst hAe; first | rfl | exact Or.inl rfl | exact Or.inr rfl | (simp; done)
  have hS : va_S A s.heap s.heap [] := va_S.rf
  have hl := lv_entry ([.ref h, .int g]) (n := 2) (Nat.le_of_ble_eq_true rfl)
  rw [lg_entry_eq]
  generalize (lg_sl ([.ref h, .int g]) ++ List.replicate (2 - (lg_sl ([.ref h, .int g])).length) Slot.unset).toArray = ls at hl ⊢
  have hl : lv_has ls 2 [(0, .ref h), (1, .int g)] := hl
  refine lv_aload_n hx hb dX1_extend_0 rfl (lv_at hl 0 rfl) ?_
  refine q_get (v := .int (nI n)) hx hb hts hin1 hown hK hh rfl 2 (by decide) (hts (.fieldLink RX1 18 "PuddingstoneLine$SpanRow" "size" "I") (by decide +kernel)) (fun _ h9 => h9) rfl dX1_extend_1 ?_
  refine lv_if_le (tgt := 31) hx hb dX1_extend_4 (by decide) (fun c4 => ?_) (fun c4 => ?_)
  · skip
    have c4 : n ≤ 0 := (nc_le (a := n) (b := 0) (by omega) (by omega)).mp c4
    exact W.vret hx hb hr (fun t ht _ => ⟨⟨(), rfl, trivial, by dsimp only; rw [ht]; exact (by simp only [extR, c4, if_true, if_false]; exact ⟨hh, hf, hla⟩)⟩, hS.F ht⟩) hS.2.2 dX1_extend_31
  · skip
    have c4 : ¬ (n ≤ 0) := fun q9 => c4 ((nc_le (a := n) (b := 0) (by omega) (by omega)).mpr q9)
    refine lv_aload_n hx hb dX1_extend_7 rfl (lv_at hl 0 rfl) ?_
    refine q_get (v := .int (nI n)) hx hb hts hin1 hown hK hh rfl 2 (by decide) (hts (.fieldLink RX1 18 "PuddingstoneLine$SpanRow" "size" "I") (by decide +kernel)) (fun _ h9 => h9) rfl dX1_extend_8 ?_
    refine lv_aload_n hx hb dX1_extend_11 rfl (lv_at hl 0 rfl) ?_
    refine q_get (v := .ref la) hx hb hts hin1 hown hK hh rfl 1 (by decide) (hts (.fieldLink RX1 15 "PuddingstoneLine$SpanRow" "lasts" "[I") (by decide +kernel)) (fun _ h9 => h9) rfl dX1_extend_12 ?_
    refine q_len hx hb hK 1 rfl hla dX1_extend_15 ?_
    refine lv_icmp_gt (tgt := 31) hx hb dX1_extend_16 (by decide) (fun c16 => ?_) (fun c16 => ?_)
    · skip
      have c16 : 201 < n := (nc_lt (a := 201) (b := n) (by omega) (by omega)).mp c16
      exact W.vret hx hb hr (fun t ht _ => ⟨⟨(), rfl, trivial, by dsimp only; rw [ht]; exact (by simp only [extR, c4, c16, if_true, if_false]; exact ⟨hh, hf, hla⟩)⟩, hS.F ht⟩) hS.2.2 dX1_extend_31
    · skip
      have c16 : ¬ (201 < n) := fun q9 => c16 ((nc_lt (a := 201) (b := n) (by omega) (by omega)).mpr q9)
      refine lv_aload_n hx hb dX1_extend_19 rfl (lv_at hl 0 rfl) ?_
      refine q_get (v := .ref la) hx hb hts hin1 hown hK hh rfl 1 (by decide) (hts (.fieldLink RX1 15 "PuddingstoneLine$SpanRow" "lasts" "[I") (by decide +kernel)) (fun _ h9 => h9) rfl dX1_extend_20 ?_
      refine lv_aload_n hx hb dX1_extend_23 rfl (lv_at hl 0 rfl) ?_
      refine q_get (v := .int (nI n)) hx hb hts hin1 hown hK hh rfl 2 (by decide) (hts (.fieldLink RX1 18 "PuddingstoneLine$SpanRow" "size" "I") (by decide +kernel)) (fun _ h9 => h9) rfl dX1_extend_24 ?_
      refine lv_iconst (v := nI 1) hx hb dX1_extend_27 (by decide) ?_
      refine lv_isub hx hb dX1_extend_28 ?_
      refine lv_iload_n hx hb dX1_extend_29 rfl (lv_at hl 1 rfl) ?_
      refine q_iast hx hb hK hla (n - 1) (pk_sub (by omega)) (by omega) (by decide) hS (hA_la) dX1_extend_30 (fun H1 locs1 hw9 hz oq hS => ?_)
      replace hh := hh.ne oq (hd.2.1)
      replace hf := hf.ne oq (hd.2.2)
      have hla := hw9
      exact W.vret hx hb hr (fun t ht _ => ⟨⟨(), rfl, trivial, by dsimp only; rw [ht]; exact (by simp only [extR, c4, c16, if_true, if_false]; exact ⟨hh, hf, hla⟩)⟩, hS.F ht⟩) hS.2.2 dX1_extend_31

set_option maxHeartbeats 4000000 in
set_option maxRecDepth 100000 in
theorem conX1_size (l : Launch) (D : va_G) (T : Nat → ClassId) (h fi la : Nat) (F L : Nat → Int32) (n : Nat) (hd : h ≠ fi ∧ h ≠ la ∧ fi ≠ la) (hn : n ≤ 201) : Met l yX1_size wsX1_size ({ frames := 0, cells := 0, slots := 0, locals := 0 }) (cP D T [.ref h] (fun H => SR D T h fi la (F, L, n) H)) (vp_Si (fun r => r = nI n)) 0 0 (fun _ => False) := by
  refine Met.ofW (cc := cX1_size) (maxL := 1) (ret := (some .int)) (by decide) rfl ?_
  intro p e s m args below meth c s₁ B hml hv9
  obtain ⟨rfl, hK, hh, hf, hla⟩ := hv9
  have hx := B.exec
  have hb := B.bytes
  have hr := B.returns
  have hts := atoms_spec (ws := wsX1_size) B.pre
  have hown : s.vm.findClass RX1 = some m.cls := findClass_of_methodNamed B.named
  have hlocks := B.notSynchronized
  have hin1 : ∀ w ∈ wsX10, w ∈ wsX1_size := by decide +kernel
  have hl := lv_entry ([.ref h]) (n := 1) (Nat.le_of_ble_eq_true rfl)
  rw [lg_entry_eq]
  generalize (lg_sl ([.ref h]) ++ List.replicate (1 - (lg_sl ([.ref h])).length) Slot.unset).toArray = ls at hl ⊢
  have hl : lv_has ls 1 [(0, .ref h)] := hl
  refine lv_aload_n hx hb dX1_size_0 rfl (lv_at hl 0 rfl) ?_
  refine q_get (v := .int (nI n)) hx hb hts hin1 hown hK hh rfl 2 (by decide) (hts (.fieldLink RX1 18 "PuddingstoneLine$SpanRow" "size" "I") (by decide +kernel)) (fun _ h9 => h9) rfl dX1_size_1 ?_
  exact W.iret (v := nI n) hx hb hr (fun t ht _ => ⟨nI n, rfl, by rfl, ht⟩) (fun q hq => absurd hq List.not_mem_nil) dX1_size_4

set_option maxHeartbeats 4000000 in
set_option maxRecDepth 100000 in
theorem conX1_first (l : Launch) (D : va_G) (T : Nat → ClassId) (h fi la : Nat) (F L : Nat → Int32) (n : Nat) (hd : h ≠ fi ∧ h ≠ la ∧ fi ≠ la) (hn : n ≤ 201) (k : Int32) : Met l yX1_first wsX1_first ({ frames := 0, cells := 0, slots := 0, locals := 0 }) (cP D T [.ref h, .int k] (fun H => SR D T h fi la (F, L, n) H)) (vp_Si (fun r => r = fstR (F, L, n) k)) 0 0 (fun _ => False) := by
  refine Met.ofW (cc := cX1_first) (maxL := 2) (ret := (some .int)) (by decide) rfl ?_
  intro p e s m args below meth c s₁ B hml hv9
  obtain ⟨rfl, hK, hh, hf, hla⟩ := hv9
  have hx := B.exec
  have hb := B.bytes
  have hr := B.returns
  have hts := atoms_spec (ws := wsX1_first) B.pre
  have hown : s.vm.findClass RX1 = some m.cls := findClass_of_methodNamed B.named
  have hlocks := B.notSynchronized
  have hin1 : ∀ w ∈ wsX10, w ∈ wsX1_first := by decide +kernel
  have hl := lv_entry ([.ref h, .int k]) (n := 2) (Nat.le_of_ble_eq_true rfl)
  rw [lg_entry_eq]
  generalize (lg_sl ([.ref h, .int k]) ++ List.replicate (2 - (lg_sl ([.ref h, .int k])).length) Slot.unset).toArray = ls at hl ⊢
  have hl : lv_has ls 2 [(0, .ref h), (1, .int k)] := hl
  refine lv_iload_n hx hb dX1_first_0 rfl (lv_at hl 1 rfl) ?_
  refine lv_if_lt (tgt := 30) hx hb dX1_first_1 (by decide) (fun c1 => ?_) (fun c1 => ?_)
  · skip
    refine lv_iconst (v := nI 0) hx hb dX1_first_30 (by decide) ?_
    exact W.iret (v := nI 0) hx hb hr (fun t ht _ => ⟨nI 0, rfl, by simp [fstR, c1], ht⟩) (fun q hq => absurd hq List.not_mem_nil) dX1_first_31
  · skip
    refine lv_iload_n hx hb dX1_first_4 rfl (lv_at hl 1 rfl) ?_
    refine lv_aload_n hx hb dX1_first_5 rfl (lv_at hl 0 rfl) ?_
    refine q_get (v := .int (nI n)) hx hb hts hin1 hown hK hh rfl 2 (by decide) (hts (.fieldLink RX1 18 "PuddingstoneLine$SpanRow" "size" "I") (by decide +kernel)) (fun _ h9 => h9) rfl dX1_first_6 ?_
    refine lv_icmp_ge (tgt := 30) hx hb dX1_first_9 (by decide) (fun c9 => ?_) (fun c9 => ?_)
    · skip
      refine lv_iconst (v := nI 0) hx hb dX1_first_30 (by decide) ?_
      exact W.iret (v := nI 0) hx hb hr (fun t ht _ => ⟨nI 0, rfl, by simp [fstR, c1, c9], ht⟩) (fun q hq => absurd hq List.not_mem_nil) dX1_first_31
    · skip
      refine lv_iload_n hx hb dX1_first_12 rfl (lv_at hl 1 rfl) ?_
      refine lv_aload_n hx hb dX1_first_13 rfl (lv_at hl 0 rfl) ?_
      refine q_get (v := .ref fi) hx hb hts hin1 hown hK hh rfl 0 (by decide) (hts (.fieldLink RX1 9 "PuddingstoneLine$SpanRow" "firsts" "[I") (by decide +kernel)) (fun _ h9 => h9) rfl dX1_first_14 ?_
      refine q_len hx hb hK 1 rfl hf dX1_first_17 ?_
      refine lv_icmp_ge (tgt := 30) hx hb dX1_first_18 (by decide) (fun c18 => ?_) (fun c18 => ?_)
      · skip
        refine lv_iconst (v := nI 0) hx hb dX1_first_30 (by decide) ?_
        exact W.iret (v := nI 0) hx hb hr (fun t ht _ => ⟨nI 0, rfl, by simp [fstR, c1, c9, c18], ht⟩) (fun q hq => absurd hq List.not_mem_nil) dX1_first_31
      · skip
        refine lv_aload_n hx hb dX1_first_21 rfl (lv_at hl 0 rfl) ?_
        refine q_get (v := .ref fi) hx hb hts hin1 hown hK hh rfl 0 (by decide) (hts (.fieldLink RX1 9 "PuddingstoneLine$SpanRow" "firsts" "[I") (by decide +kernel)) (fun _ h9 => h9) rfl dX1_first_22 ?_
        refine lv_iload_n hx hb dX1_first_25 rfl (lv_at hl 1 rfl) ?_
        refine q_iald hx hb hK hf k.toNatClampNeg (in_eq c1) (in_lt c1 c18) (by decide) dX1_first_26 ?_
        refine lv_goto (tgt := 31) hx hb dX1_first_27 (by decide) ?_
        exact W.iret (v := F k.toNatClampNeg) hx hb hr (fun t ht _ => ⟨F k.toNatClampNeg, rfl, by simp [fstR, c1, c9, c18], ht⟩) (fun q hq => absurd hq List.not_mem_nil) dX1_first_31

set_option maxHeartbeats 4000000 in
set_option maxRecDepth 100000 in
theorem conX1_last (l : Launch) (D : va_G) (T : Nat → ClassId) (h fi la : Nat) (F L : Nat → Int32) (n : Nat) (hd : h ≠ fi ∧ h ≠ la ∧ fi ≠ la) (hn : n ≤ 201) (k : Int32) : Met l yX1_last wsX1_last ({ frames := 0, cells := 0, slots := 0, locals := 0 }) (cP D T [.ref h, .int k] (fun H => SR D T h fi la (F, L, n) H)) (vp_Si (fun r => r = lasR (F, L, n) k)) 0 0 (fun _ => False) := by
  refine Met.ofW (cc := cX1_last) (maxL := 2) (ret := (some .int)) (by decide) rfl ?_
  intro p e s m args below meth c s₁ B hml hv9
  obtain ⟨rfl, hK, hh, hf, hla⟩ := hv9
  have hx := B.exec
  have hb := B.bytes
  have hr := B.returns
  have hts := atoms_spec (ws := wsX1_last) B.pre
  have hown : s.vm.findClass RX1 = some m.cls := findClass_of_methodNamed B.named
  have hlocks := B.notSynchronized
  have hin1 : ∀ w ∈ wsX10, w ∈ wsX1_last := by decide +kernel
  have hl := lv_entry ([.ref h, .int k]) (n := 2) (Nat.le_of_ble_eq_true rfl)
  rw [lg_entry_eq]
  generalize (lg_sl ([.ref h, .int k]) ++ List.replicate (2 - (lg_sl ([.ref h, .int k])).length) Slot.unset).toArray = ls at hl ⊢
  have hl : lv_has ls 2 [(0, .ref h), (1, .int k)] := hl
  refine lv_iload_n hx hb dX1_last_0 rfl (lv_at hl 1 rfl) ?_
  refine lv_if_lt (tgt := 30) hx hb dX1_last_1 (by decide) (fun c1 => ?_) (fun c1 => ?_)
  · skip
    refine lv_iconst (v := (-1)) hx hb dX1_last_30 (by decide) ?_
    exact W.iret (v := (-1)) hx hb hr (fun t ht _ => ⟨(-1), rfl, by simp [lasR, c1], ht⟩) (fun q hq => absurd hq List.not_mem_nil) dX1_last_31
  · skip
    refine lv_iload_n hx hb dX1_last_4 rfl (lv_at hl 1 rfl) ?_
    refine lv_aload_n hx hb dX1_last_5 rfl (lv_at hl 0 rfl) ?_
    refine q_get (v := .int (nI n)) hx hb hts hin1 hown hK hh rfl 2 (by decide) (hts (.fieldLink RX1 18 "PuddingstoneLine$SpanRow" "size" "I") (by decide +kernel)) (fun _ h9 => h9) rfl dX1_last_6 ?_
    refine lv_icmp_ge (tgt := 30) hx hb dX1_last_9 (by decide) (fun c9 => ?_) (fun c9 => ?_)
    · skip
      refine lv_iconst (v := (-1)) hx hb dX1_last_30 (by decide) ?_
      exact W.iret (v := (-1)) hx hb hr (fun t ht _ => ⟨(-1), rfl, by simp [lasR, c1, c9], ht⟩) (fun q hq => absurd hq List.not_mem_nil) dX1_last_31
    · skip
      refine lv_iload_n hx hb dX1_last_12 rfl (lv_at hl 1 rfl) ?_
      refine lv_aload_n hx hb dX1_last_13 rfl (lv_at hl 0 rfl) ?_
      refine q_get (v := .ref la) hx hb hts hin1 hown hK hh rfl 1 (by decide) (hts (.fieldLink RX1 15 "PuddingstoneLine$SpanRow" "lasts" "[I") (by decide +kernel)) (fun _ h9 => h9) rfl dX1_last_14 ?_
      refine q_len hx hb hK 1 rfl hla dX1_last_17 ?_
      refine lv_icmp_ge (tgt := 30) hx hb dX1_last_18 (by decide) (fun c18 => ?_) (fun c18 => ?_)
      · skip
        refine lv_iconst (v := (-1)) hx hb dX1_last_30 (by decide) ?_
        exact W.iret (v := (-1)) hx hb hr (fun t ht _ => ⟨(-1), rfl, by simp [lasR, c1, c9, c18], ht⟩) (fun q hq => absurd hq List.not_mem_nil) dX1_last_31
      · skip
        refine lv_aload_n hx hb dX1_last_21 rfl (lv_at hl 0 rfl) ?_
        refine q_get (v := .ref la) hx hb hts hin1 hown hK hh rfl 1 (by decide) (hts (.fieldLink RX1 15 "PuddingstoneLine$SpanRow" "lasts" "[I") (by decide +kernel)) (fun _ h9 => h9) rfl dX1_last_22 ?_
        refine lv_iload_n hx hb dX1_last_25 rfl (lv_at hl 1 rfl) ?_
        refine q_iald hx hb hK hla k.toNatClampNeg (in_eq c1) (in_lt c1 c18) (by decide) dX1_last_26 ?_
        refine lv_goto (tgt := 31) hx hb dX1_last_27 (by decide) ?_
        exact W.iret (v := L k.toNatClampNeg) hx hb hr (fun t ht _ => ⟨L k.toNatClampNeg, rfl, by simp [lasR, c1, c9, c18], ht⟩) (fun q hq => absurd hq List.not_mem_nil) dX1_last_31

set_option maxHeartbeats 4000000 in
set_option maxRecDepth 100000 in
theorem conX1_fact (l : Launch) (D : va_G) (T : Nat → ClassId) (h fi la : Nat) (F L : Nat → Int32) (n : Nat) (hd : h ≠ fi ∧ h ≠ la ∧ fi ≠ la) (hn : n ≤ 201) (k w : Int32) : Met l yX1_fact wsX1_fact ({ frames := 1, cells := 0, slots := 0, locals := 21 }) (cP D T [.ref h, .int k, .int w] (fun H => SR D T h fi la (F, L, n) H)) (vp_Si (fun r => r = facR (F, L, n) k w)) 0 0 (fun _ => False) := by
  refine Met.ofW (cc := cX1_fact) (maxL := 3) (ret := (some .int)) (by decide) rfl ?_
  intro p e s m args below meth c s₁ B hml hv9
  obtain ⟨rfl, hK, hh, hf, hla⟩ := hv9
  have hx := B.exec
  have hb := B.bytes
  have hr := B.returns
  have hts := atoms_spec (ws := wsX1_fact) B.pre
  have hown : s.vm.findClass RX1 = some m.cls := findClass_of_methodNamed B.named
  have hlocks := B.notSynchronized
  have hl := lv_entry ([.ref h, .int k, .int w]) (n := 3) (Nat.le_of_ble_eq_true rfl)
  rw [lg_entry_eq]
  generalize (lg_sl ([.ref h, .int k, .int w]) ++ List.replicate (3 - (lg_sl ([.ref h, .int k, .int w])).length) Slot.unset).toArray = ls at hl ⊢
  have hl : lv_has ls 3 [(0, .ref h), (1, .int k), (2, .int w)] := hl
  refine lv_iload_n hx hb dX1_fact_0 rfl (lv_at hl 2 rfl) ?_
  by_cases e0 : w = 0
  · skip
    refine lv_lookup (off := 27) (tgt := 28) hx hb dX1_fact_1 (by decide) (by rw [e0]; rfl) (by decide) ?_
    refine lv_aload_n hx hb dX1_fact_28 rfl (lv_at hl 0 rfl) ?_
    refine lv_iload_n hx hb dX1_fact_29 rfl (lv_at hl 1 rfl) ?_
    refine vp_callSi (va_runV (As := [.int k]) (rest := []) ⟨hx, hb, hml, hown, hts⟩ (conX1_first l D T h fi la F L n hd hn k) (cwV 1 hts gX1_fact_X1_first rfl rfl rfl (by decide +kernel) ⟨Nat.le_of_ble_eq_true rfl, Nat.le_of_ble_eq_true rfl⟩) (preV hK hh rfl ⟨hh, hf, hla⟩) rfl rfl hl.1 rfl (lv_room (Nat.le_of_ble_eq_true rfl)) dX1_fact_30 ⟨Nat.le_of_ble_eq_true rfl, Nat.le_of_ble_eq_true rfl⟩).run (fun r1 hr1 => ?_)
    subst hr1
    refine lv_iconst (v := nI 2) hx hb dX1_fact_33 (by decide) ?_
    refine lv_idiv hx hb dX1_fact_34 (by decide) ?_
    exact W.iret (v := (fstR (F, L, n) k) / (nI 2)) hx hb hr (fun t ht _ => ⟨(fstR (F, L, n) k) / (nI 2), rfl, by first | (rw [facR, if_pos e0]; done) | (rw [facR, if_neg e0, if_pos e1]; done) | (rw [facR, if_neg e0, if_neg e1]; (first | rw [if_pos c54] | rw [if_neg c54]); (first | rw [if_pos c70] | rw [if_neg c70]); (try rfl)), ht⟩) (fun q hq => absurd hq List.not_mem_nil) dX1_fact_35
  by_cases e1 : w = 1
  · skip
    refine lv_lookup (off := 35) (tgt := 36) hx hb dX1_fact_1 (by decide) (by rw [e1]; rfl) (by decide) ?_
    refine lv_aload_n hx hb dX1_fact_36 rfl (lv_at hl 0 rfl) ?_
    refine lv_iload_n hx hb dX1_fact_37 rfl (lv_at hl 1 rfl) ?_
    refine vp_callSi (va_runV (As := [.int k]) (rest := []) ⟨hx, hb, hml, hown, hts⟩ (conX1_last l D T h fi la F L n hd hn k) (cwV 1 hts gX1_fact_X1_last rfl rfl rfl (by decide +kernel) ⟨Nat.le_of_ble_eq_true rfl, Nat.le_of_ble_eq_true rfl⟩) (preV hK hh rfl ⟨hh, hf, hla⟩) rfl rfl hl.1 rfl (lv_room (Nat.le_of_ble_eq_true rfl)) dX1_fact_38 ⟨Nat.le_of_ble_eq_true rfl, Nat.le_of_ble_eq_true rfl⟩).run (fun r2 hr2 => ?_)
    subst hr2
    refine lv_iconst (v := nI 1) hx hb dX1_fact_41 (by decide) ?_
    refine lv_iadd hx hb dX1_fact_42 ?_
    refine lv_iconst (v := nI 2) hx hb dX1_fact_43 (by decide) ?_
    refine lv_idiv hx hb dX1_fact_44 (by decide) ?_
    exact W.iret (v := ((lasR (F, L, n) k) + (nI 1)) / (nI 2)) hx hb hr (fun t ht _ => ⟨((lasR (F, L, n) k) + (nI 1)) / (nI 2), rfl, by first | (rw [facR, if_pos e0]; done) | (rw [facR, if_neg e0, if_pos e1]; done) | (rw [facR, if_neg e0, if_neg e1]; (first | rw [if_pos c54] | rw [if_neg c54]); (first | rw [if_pos c70] | rw [if_neg c70]); (try rfl)), ht⟩) (fun q hq => absurd hq List.not_mem_nil) dX1_fact_45
  refine lv_lookup (off := 45) (tgt := 46) hx hb dX1_fact_1 (by decide) ((lv_osw e0 rfl).trans ((lv_osw e1 rfl).trans rfl)) (by decide) ?_
  refine lv_aload_n hx hb dX1_fact_46 rfl (lv_at hl 0 rfl) ?_
  refine lv_iload_n hx hb dX1_fact_47 rfl (lv_at hl 1 rfl) ?_
  refine vp_callSi (va_runV (As := [.int k]) (rest := []) ⟨hx, hb, hml, hown, hts⟩ (conX1_first l D T h fi la F L n hd hn k) (cwV 1 hts gX1_fact_X1_first rfl rfl rfl (by decide +kernel) ⟨Nat.le_of_ble_eq_true rfl, Nat.le_of_ble_eq_true rfl⟩) (preV hK hh rfl ⟨hh, hf, hla⟩) rfl rfl hl.1 rfl (lv_room (Nat.le_of_ble_eq_true rfl)) dX1_fact_48 ⟨Nat.le_of_ble_eq_true rfl, Nat.le_of_ble_eq_true rfl⟩).run (fun r3 hr3 => ?_)
  subst hr3
  refine vp_callSi (va_runSN (As := [.int (fstR (F, L, n) k)]) (rest := []) ⟨hx, hb, hml, hown, hts⟩ (conX3_isPoint l D T (fstR (F, L, n) k)) (⟨va_cnB 1 hts gX1_fact_X3_isPoint_n46 rfl rfl rfl hK.2.2.1 (hts (.initialized RX3) (by decide +kernel)) (by decide +kernel) ⟨Nat.le_of_ble_eq_true rfl, Nat.le_of_ble_eq_true rfl⟩, hts (.static yX3_isPoint) (by decide +kernel), trivial⟩) (preS hK trivial) rfl rfl hl.1 rfl (lv_room (Nat.le_of_ble_eq_true rfl)) dX1_fact_51 ⟨Nat.le_of_ble_eq_true rfl, Nat.le_of_ble_eq_true rfl⟩).run (fun r4 hr4 => ?_)
  subst hr4
  refine lv_if_eq (tgt := 61) hx hb dX1_fact_54 (by decide) (fun c54 => ?_) (fun c54 => ?_)
  · skip
    refine lv_iconst (v := nI 0) hx hb dX1_fact_61 (by decide) ?_
    refine lv_aload_n hx hb dX1_fact_62 rfl (lv_at hl 0 rfl) ?_
    refine lv_iload_n hx hb dX1_fact_63 rfl (lv_at hl 1 rfl) ?_
    refine vp_callSi (va_runV (As := [.int k]) (rest := [.int (nI 0)]) ⟨hx, hb, hml, hown, hts⟩ (conX1_last l D T h fi la F L n hd hn k) (cwV 1 hts gX1_fact_X1_last rfl rfl rfl (by decide +kernel) ⟨Nat.le_of_ble_eq_true rfl, Nat.le_of_ble_eq_true rfl⟩) (preV hK hh rfl ⟨hh, hf, hla⟩) rfl rfl hl.1 rfl (lv_room (Nat.le_of_ble_eq_true rfl)) dX1_fact_64 ⟨Nat.le_of_ble_eq_true rfl, Nat.le_of_ble_eq_true rfl⟩).run (fun r5 hr5 => ?_)
    subst hr5
    refine vp_callSi (va_runSN (As := [.int (lasR (F, L, n) k)]) (rest := [.int (nI 0)]) ⟨hx, hb, hml, hown, hts⟩ (conX3_isPoint l D T (lasR (F, L, n) k)) (⟨va_cnB 1 hts gX1_fact_X3_isPoint_n46 rfl rfl rfl hK.2.2.1 (hts (.initialized RX3) (by decide +kernel)) (by decide +kernel) ⟨Nat.le_of_ble_eq_true rfl, Nat.le_of_ble_eq_true rfl⟩, hts (.static yX3_isPoint) (by decide +kernel), trivial⟩) (preS hK trivial) rfl rfl hl.1 rfl (lv_room (Nat.le_of_ble_eq_true rfl)) dX1_fact_67 ⟨Nat.le_of_ble_eq_true rfl, Nat.le_of_ble_eq_true rfl⟩).run (fun r6 hr6 => ?_)
    subst hr6
    refine lv_if_eq (tgt := 77) hx hb dX1_fact_70 (by decide) (fun c70 => ?_) (fun c70 => ?_)
    · skip
      refine lv_iconst (v := nI 0) hx hb dX1_fact_77 (by decide) ?_
      refine lv_iadd hx hb dX1_fact_78 ?_
      rw [nI_add]
      exact W.iret (v := nI 0) hx hb hr (fun t ht _ => ⟨nI 0, rfl, by first | (rw [facR, if_pos e0]; done) | (rw [facR, if_neg e0, if_pos e1]; done) | (rw [facR, if_neg e0, if_neg e1]; (first | rw [if_pos c54] | rw [if_neg c54]); (first | rw [if_pos c70] | rw [if_neg c70]); (try rfl)), ht⟩) (fun q hq => absurd hq List.not_mem_nil) dX1_fact_79
    · skip
      refine lv_iconst (v := nI 2) hx hb dX1_fact_73 (by decide) ?_
      refine lv_goto (tgt := 78) hx hb dX1_fact_74 (by decide) ?_
      refine lv_iadd hx hb dX1_fact_78 ?_
      rw [nI_add]
      exact W.iret (v := nI 2) hx hb hr (fun t ht _ => ⟨nI 2, rfl, by first | (rw [facR, if_pos e0]; done) | (rw [facR, if_neg e0, if_pos e1]; done) | (rw [facR, if_neg e0, if_neg e1]; (first | rw [if_pos c54] | rw [if_neg c54]); (first | rw [if_pos c70] | rw [if_neg c70]); (try rfl)), ht⟩) (fun q hq => absurd hq List.not_mem_nil) dX1_fact_79
  · skip
    refine lv_iconst (v := nI 1) hx hb dX1_fact_57 (by decide) ?_
    refine lv_goto (tgt := 62) hx hb dX1_fact_58 (by decide) ?_
    refine lv_aload_n hx hb dX1_fact_62 rfl (lv_at hl 0 rfl) ?_
    refine lv_iload_n hx hb dX1_fact_63 rfl (lv_at hl 1 rfl) ?_
    refine vp_callSi (va_runV (As := [.int k]) (rest := [.int (nI 1)]) ⟨hx, hb, hml, hown, hts⟩ (conX1_last l D T h fi la F L n hd hn k) (cwV 1 hts gX1_fact_X1_last rfl rfl rfl (by decide +kernel) ⟨Nat.le_of_ble_eq_true rfl, Nat.le_of_ble_eq_true rfl⟩) (preV hK hh rfl ⟨hh, hf, hla⟩) rfl rfl hl.1 rfl (lv_room (Nat.le_of_ble_eq_true rfl)) dX1_fact_64 ⟨Nat.le_of_ble_eq_true rfl, Nat.le_of_ble_eq_true rfl⟩).run (fun r7 hr7 => ?_)
    subst hr7
    refine vp_callSi (va_runSN (As := [.int (lasR (F, L, n) k)]) (rest := [.int (nI 1)]) ⟨hx, hb, hml, hown, hts⟩ (conX3_isPoint l D T (lasR (F, L, n) k)) (⟨va_cnB 1 hts gX1_fact_X3_isPoint_n46 rfl rfl rfl hK.2.2.1 (hts (.initialized RX3) (by decide +kernel)) (by decide +kernel) ⟨Nat.le_of_ble_eq_true rfl, Nat.le_of_ble_eq_true rfl⟩, hts (.static yX3_isPoint) (by decide +kernel), trivial⟩) (preS hK trivial) rfl rfl hl.1 rfl (lv_room (Nat.le_of_ble_eq_true rfl)) dX1_fact_67 ⟨Nat.le_of_ble_eq_true rfl, Nat.le_of_ble_eq_true rfl⟩).run (fun r8 hr8 => ?_)
    subst hr8
    refine lv_if_eq (tgt := 77) hx hb dX1_fact_70 (by decide) (fun c70 => ?_) (fun c70 => ?_)
    · skip
      refine lv_iconst (v := nI 0) hx hb dX1_fact_77 (by decide) ?_
      refine lv_iadd hx hb dX1_fact_78 ?_
      rw [nI_add]
      exact W.iret (v := nI 1) hx hb hr (fun t ht _ => ⟨nI 1, rfl, by first | (rw [facR, if_pos e0]; done) | (rw [facR, if_neg e0, if_pos e1]; done) | (rw [facR, if_neg e0, if_neg e1]; (first | rw [if_pos c54] | rw [if_neg c54]); (first | rw [if_pos c70] | rw [if_neg c70]); (try rfl)), ht⟩) (fun q hq => absurd hq List.not_mem_nil) dX1_fact_79
    · skip
      refine lv_iconst (v := nI 2) hx hb dX1_fact_73 (by decide) ?_
      refine lv_goto (tgt := 78) hx hb dX1_fact_74 (by decide) ?_
      refine lv_iadd hx hb dX1_fact_78 ?_
      rw [nI_add]
      exact W.iret (v := nI 3) hx hb hr (fun t ht _ => ⟨nI 3, rfl, by first | (rw [facR, if_pos e0]; done) | (rw [facR, if_neg e0, if_pos e1]; done) | (rw [facR, if_neg e0, if_neg e1]; (first | rw [if_pos c54] | rw [if_neg c54]); (first | rw [if_pos c70] | rw [if_neg c70]); (try rfl)), ht⟩) (fun q hq => absurd hq List.not_mem_nil) dX1_fact_79

set_option maxHeartbeats 4000000 in
set_option maxRecDepth 100000 in
theorem conX1_length (l : Launch) (D : va_G) (T : Nat → ClassId) (h fi la : Nat) (F L : Nat → Int32) (n : Nat) (hd : h ≠ fi ∧ h ≠ la ∧ fi ≠ la) (hn : n ≤ 201) (k : Int32) : Met l yX1_length wsX1_length ({ frames := 2, cells := 0, slots := 0, locals := 43 }) (cP D T [.ref h, .int k] (fun H => SR D T h fi la (F, L, n) H)) (vp_Si (fun r => r = lenR (F, L, n) k)) 0 0 (fun _ => False) := by
  refine Met.ofW (cc := cX1_length) (maxL := 2) (ret := (some .int)) (by decide) rfl ?_
  intro p e s m args below meth c s₁ B hml hv9
  obtain ⟨rfl, hK, hh, hf, hla⟩ := hv9
  have hx := B.exec
  have hb := B.bytes
  have hr := B.returns
  have hts := atoms_spec (ws := wsX1_length) B.pre
  have hown : s.vm.findClass RX1 = some m.cls := findClass_of_methodNamed B.named
  have hlocks := B.notSynchronized
  have hl := lv_entry ([.ref h, .int k]) (n := 2) (Nat.le_of_ble_eq_true rfl)
  rw [lg_entry_eq]
  generalize (lg_sl ([.ref h, .int k]) ++ List.replicate (2 - (lg_sl ([.ref h, .int k])).length) Slot.unset).toArray = ls at hl ⊢
  have hl : lv_has ls 2 [(0, .ref h), (1, .int k)] := hl
  refine lv_aload_n hx hb dX1_length_0 rfl (lv_at hl 0 rfl) ?_
  refine lv_iload_n hx hb dX1_length_1 rfl (lv_at hl 1 rfl) ?_
  refine lv_iconst (v := nI 1) hx hb dX1_length_2 (by decide) ?_
  refine vp_callSi (va_runV (As := [.int k, .int (nI 1)]) (rest := []) ⟨hx, hb, hml, hown, hts⟩ (conX1_fact l D T h fi la F L n hd hn k (nI 1)) (cwV 2 hts gX1_length_X1_fact rfl rfl rfl (by decide +kernel) ⟨Nat.le_of_ble_eq_true rfl, Nat.le_of_ble_eq_true rfl⟩) (preV hK hh rfl ⟨hh, hf, hla⟩) rfl rfl hl.1 rfl (lv_room (Nat.le_of_ble_eq_true rfl)) dX1_length_3 ⟨Nat.le_of_ble_eq_true rfl, Nat.le_of_ble_eq_true rfl⟩).run (fun r1 hr1 => ?_)
  subst hr1
  refine lv_aload_n hx hb dX1_length_6 rfl (lv_at hl 0 rfl) ?_
  refine lv_iload_n hx hb dX1_length_7 rfl (lv_at hl 1 rfl) ?_
  refine lv_iconst (v := nI 0) hx hb dX1_length_8 (by decide) ?_
  refine vp_callSi (va_runV (As := [.int k, .int (nI 0)]) (rest := [.int (facR (F, L, n) k (nI 1))]) ⟨hx, hb, hml, hown, hts⟩ (conX1_fact l D T h fi la F L n hd hn k (nI 0)) (cwV 2 hts gX1_length_X1_fact rfl rfl rfl (by decide +kernel) ⟨Nat.le_of_ble_eq_true rfl, Nat.le_of_ble_eq_true rfl⟩) (preV hK hh rfl ⟨hh, hf, hla⟩) rfl rfl hl.1 rfl (lv_room (Nat.le_of_ble_eq_true rfl)) dX1_length_9 ⟨Nat.le_of_ble_eq_true rfl, Nat.le_of_ble_eq_true rfl⟩).run (fun r2 hr2 => ?_)
  subst hr2
  refine lv_isub hx hb dX1_length_12 ?_
  exact W.iret (v := (facR (F, L, n) k (nI 1)) - (facR (F, L, n) k (nI 0))) hx hb hr (fun t ht _ => ⟨(facR (F, L, n) k (nI 1)) - (facR (F, L, n) k (nI 0)), rfl, by rfl, ht⟩) (fun q hq => absurd hq List.not_mem_nil) dX1_length_13

set_option maxHeartbeats 4000000 in
set_option maxRecDepth 100000 in
theorem conX1_lonePoints (l : Launch) (D : va_G) (T : Nat → ClassId) (h fi la : Nat) (F L : Nat → Int32) (n : Nat) (hd : h ≠ fi ∧ h ≠ la ∧ fi ≠ la) (hn : n ≤ 201) : Met l yX1_lonePoints wsX1_lonePoints ({ frames := 3, cells := 0, slots := 0, locals := 64 }) (cP D T [.ref h] (fun H => SR D T h fi la (F, L, n) H)) (vp_Si (fun r => r = lonR (F, L, n) n)) 0 0 (fun _ => False) := by
  refine Met.ofW (cc := cX1_lonePoints) (maxL := 3) (ret := (some .int)) (by decide) rfl ?_
  intro p e s m args below meth c s₁ B hml hv9
  obtain ⟨rfl, hK, hh, hf, hla⟩ := hv9
  have hx := B.exec
  have hb := B.bytes
  have hr := B.returns
  have hts := atoms_spec (ws := wsX1_lonePoints) B.pre
  have hown : s.vm.findClass RX1 = some m.cls := findClass_of_methodNamed B.named
  have hlocks := B.notSynchronized
  have hin1 : ∀ w ∈ wsX10, w ∈ wsX1_lonePoints := by decide +kernel
  have hl := lv_entry ([.ref h]) (n := 3) (Nat.le_of_ble_eq_true rfl)
  rw [lg_entry_eq]
  generalize (lg_sl ([.ref h]) ++ List.replicate (3 - (lg_sl ([.ref h])).length) Slot.unset).toArray = ls at hl ⊢
  have hl : lv_has ls 3 [(0, .ref h)] := hl
  refine lv_iconst (v := nI 0) hx hb dX1_lonePoints_0 (by decide) ?_
  refine lv_istore_n (lv' := [(1, .int (nI 0)), (0, .ref h)]) hx hb dX1_lonePoints_1 rfl hl (by decide) rfl (fun ls hl => ?_)
  refine lv_iconst (v := nI 0) hx hb dX1_lonePoints_2 (by decide) ?_
  refine lv_istore_n (lv' := [(2, .int (nI 0)), (1, .int (nI 0)), (0, .ref h)]) hx hb dX1_lonePoints_3 rfl hl (by decide) rfl (fun ls hl => ?_)
  refine q_for (fun (i : Nat) (H : Heap) (locs : List Loc) (ls : Array Slot) => H = s.heap ∧ locs = [] ∧ lv_has ls 3 [(2, .int (nI i)), (1, .int (lonR (F, L, n) i)), (0, .ref h)]) (N := n) 0 (by omega) ?_ ?_ ?_
  · skip
    have e1 : nI 0 = lonR (F, L, n) 0 := by rfl
    exact ⟨rfl, rfl, lv_sub (lv_ex hl 1 rfl (congrArg Value.int e1)) [0, 1, 2] rfl⟩
  · skip
    intro i H locs ls hi9 hin9 hnext
    obtain ⟨rfl, rfl, hl⟩ := hin9
    refine lv_iload_n hx hb dX1_lonePoints_4 rfl (lv_at hl 0 rfl) ?_
    refine lv_aload_n hx hb dX1_lonePoints_5 rfl (lv_at hl 2 rfl) ?_
    refine q_get (v := .int (nI n)) hx hb hts hin1 hown hK hh rfl 2 (by decide) (hts (.fieldLink RX1 18 "PuddingstoneLine$SpanRow" "size" "I") (by decide +kernel)) (fun _ h9 => h9) rfl dX1_lonePoints_6 ?_
    refine lv_icmp_ge (tgt := 29) hx hb dX1_lonePoints_9 (by decide) (fun c9 => ?_) (fun c9 => ?_)
    · skip
      have c9 : n ≤ i := (nc_le (a := n) (b := i) (by omega) (by omega)).mp c9
      omega
    · skip
      have c9 : ¬ (n ≤ i) := fun q9 => c9 ((nc_le (a := n) (b := i) (by omega) (by omega)).mpr q9)
      refine lv_aload_n hx hb dX1_lonePoints_12 rfl (lv_at hl 2 rfl) ?_
      refine lv_iload_n hx hb dX1_lonePoints_13 rfl (lv_at hl 0 rfl) ?_
      refine vp_callSi (va_runV (As := [.int (nI i)]) (rest := []) ⟨hx, hb, hml, hown, hts⟩ (conX1_length l D T h fi la F L n hd hn (nI i)) (cwV 1 hts gX1_lonePoints_X1_length rfl rfl rfl (by decide +kernel) ⟨Nat.le_of_ble_eq_true rfl, Nat.le_of_ble_eq_true rfl⟩) (preV hK hh rfl ⟨hh, hf, hla⟩) rfl rfl hl.1 rfl (lv_room (Nat.le_of_ble_eq_true rfl)) dX1_lonePoints_14 ⟨Nat.le_of_ble_eq_true rfl, Nat.le_of_ble_eq_true rfl⟩).run (fun r2 hr2 => ?_)
      subst hr2
      refine lv_if_ne (tgt := 23) hx hb dX1_lonePoints_17 (by decide) (fun c17 => ?_) (fun c17 => ?_)
      · skip
        refine lv_iinc (v := nI (i + 1)) (lv' := [(2, .int (nI (i + 1))), (1, .int (lonR (F, L, n) i)), (0, .ref h)]) hx hb dX1_lonePoints_23 hl (k := 0) rfl (inc_1 _) (by decide) rfl (fun ls hl => ?_)
        refine lv_goto (tgt := 4) hx hb dX1_lonePoints_26 (by decide) ?_
        have e3 : lonR (F, L, n) i = lonR (F, L, n) (i + 1) := by first | (rw [lonR_s, if_pos c17]; done) | (rw [lonR_s, if_neg c17]; done)
        exact hnext _ _ _ ⟨rfl, rfl, lv_sub (lv_ex hl 1 rfl (congrArg Value.int e3)) [0, 1, 2] rfl⟩
      · skip
        refine lv_iinc (v := (lonR (F, L, n) i) + 1) (lv' := [(1, .int ((lonR (F, L, n) i) + 1)), (2, .int (nI i)), (0, .ref h)]) hx hb dX1_lonePoints_20 hl (k := 1) rfl (rfl) (by decide) rfl (fun ls hl => ?_)
        refine lv_iinc (v := nI (i + 1)) (lv' := [(2, .int (nI (i + 1))), (1, .int ((lonR (F, L, n) i) + 1)), (0, .ref h)]) hx hb dX1_lonePoints_23 hl (k := 1) rfl (inc_1 _) (by decide) rfl (fun ls hl => ?_)
        refine lv_goto (tgt := 4) hx hb dX1_lonePoints_26 (by decide) ?_
        have e4 : (lonR (F, L, n) i) + 1 = lonR (F, L, n) (i + 1) := by first | (rw [lonR_s, if_pos c17]; done) | (rw [lonR_s, if_neg c17]; done)
        exact hnext _ _ _ ⟨rfl, rfl, lv_sub (lv_ex hl 1 rfl (congrArg Value.int e4)) [0, 1, 2] rfl⟩
  · skip
    intro H locs ls hin9
    obtain ⟨rfl, rfl, hl⟩ := hin9
    refine lv_iload_n hx hb dX1_lonePoints_4 rfl (lv_at hl 0 rfl) ?_
    refine lv_aload_n hx hb dX1_lonePoints_5 rfl (lv_at hl 2 rfl) ?_
    refine q_get (v := .int (nI n)) hx hb hts hin1 hown hK hh rfl 2 (by decide) (hts (.fieldLink RX1 18 "PuddingstoneLine$SpanRow" "size" "I") (by decide +kernel)) (fun _ h9 => h9) rfl dX1_lonePoints_6 ?_
    refine lv_icmp_ge (tgt := 29) hx hb dX1_lonePoints_9 (by decide) (fun c9 => ?_) (fun c9 => ?_)
    · skip
      have c9 : n ≤ n := (nc_le (a := n) (b := n) (by omega) (by omega)).mp c9
      refine lv_iload_n hx hb dX1_lonePoints_29 rfl (lv_at hl 1 rfl) ?_
      exact W.iret (v := lonR (F, L, n) n) hx hb hr (fun t ht _ => ⟨lonR (F, L, n) n, rfl, by rfl, ht⟩) (fun q hq => absurd hq List.not_mem_nil) dX1_lonePoints_30
    · skip
      have c9 : ¬ (n ≤ n) := fun q9 => c9 ((nc_le (a := n) (b := n) (by omega) (by omega)).mpr q9)
      omega

set_option maxHeartbeats 4000000 in
set_option maxRecDepth 100000 in
theorem conX1_longest (l : Launch) (D : va_G) (T : Nat → ClassId) (h fi la : Nat) (F L : Nat → Int32) (n : Nat) (hd : h ≠ fi ∧ h ≠ la ∧ fi ≠ la) (hn : n ≤ 201) : Met l yX1_longest wsX1_longest ({ frames := 3, cells := 0, slots := 0, locals := 64 }) (cP D T [.ref h] (fun H => SR D T h fi la (F, L, n) H)) (vp_Si (fun r => r = lngR (F, L, n) (n - 1))) 0 0 (fun _ => False) := by
  refine Met.ofW (cc := cX1_longest) (maxL := 3) (ret := (some .int)) (by decide) rfl ?_
  intro p e s m args below meth c s₁ B hml hv9
  obtain ⟨rfl, hK, hh, hf, hla⟩ := hv9
  have hx := B.exec
  have hb := B.bytes
  have hr := B.returns
  have hts := atoms_spec (ws := wsX1_longest) B.pre
  have hown : s.vm.findClass RX1 = some m.cls := findClass_of_methodNamed B.named
  have hlocks := B.notSynchronized
  have hin1 : ∀ w ∈ wsX10, w ∈ wsX1_longest := by decide +kernel
  have hl := lv_entry ([.ref h]) (n := 3) (Nat.le_of_ble_eq_true rfl)
  rw [lg_entry_eq]
  generalize (lg_sl ([.ref h]) ++ List.replicate (3 - (lg_sl ([.ref h])).length) Slot.unset).toArray = ls at hl ⊢
  have hl : lv_has ls 3 [(0, .ref h)] := hl
  refine lv_iconst (v := nI 0) hx hb dX1_longest_0 (by decide) ?_
  refine lv_istore_n (lv' := [(1, .int (nI 0)), (0, .ref h)]) hx hb dX1_longest_1 rfl hl (by decide) rfl (fun ls hl => ?_)
  refine lv_iconst (v := nI 1) hx hb dX1_longest_2 (by decide) ?_
  refine lv_istore_n (lv' := [(2, .int (nI 1)), (1, .int (nI 0)), (0, .ref h)]) hx hb dX1_longest_3 rfl hl (by decide) rfl (fun ls hl => ?_)
  refine q_for (fun (i : Nat) (H : Heap) (locs : List Loc) (ls : Array Slot) => H = s.heap ∧ locs = [] ∧ lv_has ls 3 [(2, .int (nI (i + 1))), (1, .int (lngR (F, L, n) i)), (0, .ref h)]) (N := (n - 1)) 0 (by omega) ?_ ?_ ?_
  · skip
    have e1 : nI 0 = lngR (F, L, n) 0 := by rfl
    exact ⟨rfl, rfl, lv_sub (lv_ex hl 1 rfl (congrArg Value.int e1)) [0, 1, 2] rfl⟩
  · skip
    intro i H locs ls hi9 hin9 hnext
    obtain ⟨rfl, rfl, hl⟩ := hin9
    refine lv_iload_n hx hb dX1_longest_4 rfl (lv_at hl 0 rfl) ?_
    refine lv_aload_n hx hb dX1_longest_5 rfl (lv_at hl 2 rfl) ?_
    refine q_get (v := .int (nI n)) hx hb hts hin1 hown hK hh rfl 2 (by decide) (hts (.fieldLink RX1 18 "PuddingstoneLine$SpanRow" "size" "I") (by decide +kernel)) (fun _ h9 => h9) rfl dX1_longest_6 ?_
    refine lv_icmp_ge (tgt := 33) hx hb dX1_longest_9 (by decide) (fun c9 => ?_) (fun c9 => ?_)
    · skip
      have c9 : n ≤ i + 1 := (nc_le (a := n) (b := i + 1) (by omega) (by omega)).mp c9
      omega
    · skip
      have c9 : ¬ (n ≤ i + 1) := fun q9 => c9 ((nc_le (a := n) (b := i + 1) (by omega) (by omega)).mpr q9)
      refine lv_aload_n hx hb dX1_longest_12 rfl (lv_at hl 2 rfl) ?_
      refine lv_iload_n hx hb dX1_longest_13 rfl (lv_at hl 0 rfl) ?_
      refine vp_callSi (va_runV (As := [.int (nI (i + 1))]) (rest := []) ⟨hx, hb, hml, hown, hts⟩ (conX1_length l D T h fi la F L n hd hn (nI (i + 1))) (cwV 1 hts gX1_longest_X1_length rfl rfl rfl (by decide +kernel) ⟨Nat.le_of_ble_eq_true rfl, Nat.le_of_ble_eq_true rfl⟩) (preV hK hh rfl ⟨hh, hf, hla⟩) rfl rfl hl.1 rfl (lv_room (Nat.le_of_ble_eq_true rfl)) dX1_longest_14 ⟨Nat.le_of_ble_eq_true rfl, Nat.le_of_ble_eq_true rfl⟩).run (fun r2 hr2 => ?_)
      subst hr2
      refine lv_aload_n hx hb dX1_longest_17 rfl (lv_at hl 2 rfl) ?_
      refine lv_iload_n hx hb dX1_longest_18 rfl (lv_at hl 1 rfl) ?_
      refine vp_callSi (va_runV (As := [.int (lngR (F, L, n) i)]) (rest := [.int (lenR (F, L, n) (nI (i + 1)))]) ⟨hx, hb, hml, hown, hts⟩ (conX1_length l D T h fi la F L n hd hn (lngR (F, L, n) i)) (cwV 1 hts gX1_longest_X1_length rfl rfl rfl (by decide +kernel) ⟨Nat.le_of_ble_eq_true rfl, Nat.le_of_ble_eq_true rfl⟩) (preV hK hh rfl ⟨hh, hf, hla⟩) rfl rfl hl.1 rfl (lv_room (Nat.le_of_ble_eq_true rfl)) dX1_longest_19 ⟨Nat.le_of_ble_eq_true rfl, Nat.le_of_ble_eq_true rfl⟩).run (fun r3 hr3 => ?_)
      subst hr3
      refine lv_icmp_le (tgt := 27) hx hb dX1_longest_22 (by decide) (fun c22 => ?_) (fun c22 => ?_)
      · skip
        refine lv_iinc (v := nI (i + 1 + 1)) (lv' := [(2, .int (nI (i + 1 + 1))), (1, .int (lngR (F, L, n) i)), (0, .ref h)]) hx hb dX1_longest_27 hl (k := 0) rfl (inc_1 _) (by decide) rfl (fun ls hl => ?_)
        refine lv_goto (tgt := 4) hx hb dX1_longest_30 (by decide) ?_
        have e4 : nI (i + 1 + 1) = nI ((i + 1) + 1) := by rfl
        have e5 : lngR (F, L, n) i = lngR (F, L, n) (i + 1) := by first | (rw [lngR_s, if_pos c22]; done) | (rw [lngR_s, if_neg c22]; done)
        exact hnext _ _ _ ⟨rfl, rfl, lv_sub (lv_ex (lv_ex hl 0 rfl (congrArg Value.int e4)) 1 rfl (congrArg Value.int e5)) [0, 1, 2] rfl⟩
      · skip
        refine lv_iload_n hx hb dX1_longest_25 rfl (lv_at hl 0 rfl) ?_
        refine lv_istore_n (lv' := [(1, .int (nI (i + 1))), (2, .int (nI (i + 1))), (0, .ref h)]) hx hb dX1_longest_26 rfl hl (by decide) rfl (fun ls hl => ?_)
        refine lv_iinc (v := nI (i + 1 + 1)) (lv' := [(2, .int (nI (i + 1 + 1))), (1, .int (nI (i + 1))), (0, .ref h)]) hx hb dX1_longest_27 hl (k := 1) rfl (inc_1 _) (by decide) rfl (fun ls hl => ?_)
        refine lv_goto (tgt := 4) hx hb dX1_longest_30 (by decide) ?_
        have e6 : nI (i + 1 + 1) = nI ((i + 1) + 1) := by rfl
        have e7 : nI (i + 1) = lngR (F, L, n) (i + 1) := by first | (rw [lngR_s, if_pos c22]; done) | (rw [lngR_s, if_neg c22]; done)
        exact hnext _ _ _ ⟨rfl, rfl, lv_sub (lv_ex (lv_ex hl 0 rfl (congrArg Value.int e6)) 1 rfl (congrArg Value.int e7)) [0, 1, 2] rfl⟩
  · skip
    intro H locs ls hin9
    obtain ⟨rfl, rfl, hl⟩ := hin9
    refine lv_iload_n hx hb dX1_longest_4 rfl (lv_at hl 0 rfl) ?_
    refine lv_aload_n hx hb dX1_longest_5 rfl (lv_at hl 2 rfl) ?_
    refine q_get (v := .int (nI n)) hx hb hts hin1 hown hK hh rfl 2 (by decide) (hts (.fieldLink RX1 18 "PuddingstoneLine$SpanRow" "size" "I") (by decide +kernel)) (fun _ h9 => h9) rfl dX1_longest_6 ?_
    refine lv_icmp_ge (tgt := 33) hx hb dX1_longest_9 (by decide) (fun c9 => ?_) (fun c9 => ?_)
    · skip
      have c9 : n ≤ (n - 1) + 1 := (nc_le (a := n) (b := (n - 1) + 1) (by omega) (by omega)).mp c9
      refine lv_iload_n hx hb dX1_longest_33 rfl (lv_at hl 1 rfl) ?_
      exact W.iret (v := lngR (F, L, n) (n - 1)) hx hb hr (fun t ht _ => ⟨lngR (F, L, n) (n - 1), rfl, by rfl, ht⟩) (fun q hq => absurd hq List.not_mem_nil) dX1_longest_34
    · skip
      have c9 : ¬ (n ≤ (n - 1) + 1) := fun q9 => c9 ((nc_le (a := n) (b := (n - 1) + 1) (by omega) (by omega)).mpr q9)
      omega
