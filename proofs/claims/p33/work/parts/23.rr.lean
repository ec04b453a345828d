set_option maxHeartbeats 4000000 in
set_option maxRecDepth 100000 in
theorem conX1_readRuns (l : Launch) (D : va_G) (T : Nat → ClassId) (h fi la : Nat) (F L : Nat → Int32) (n : Nat) (hd : h ≠ fi ∧ h ≠ la ∧ fi ≠ la) (hn : n ≤ 201) (g0 a0 : Nat) (f : Nat → Int32) (v : Int32) (hg0 : ¬ (g0 = h ∨ g0 = fi ∨ g0 = la)) (ha0 : ¬ (a0 = h ∨ a0 = fi ∨ a0 = la)) : Met l yX1_readRuns wsX1_readRuns ({ frames := 1, cells := 0, slots := 0, locals := 21 }) (cP D T [.ref h, .ref g0, .int v] (fun H => SR D T h fi la (F, L, n) H ∧ GS D T g0 a0 f H)) (va_Qv (fun (_ : Unit) => True) (fun _ t => SR D T h fi la (rrR f v (F, L, n) 201) t.heap) (fun q : Nat => q = h ∨ q = fi ∨ q = la)) 0 0 (fun q : Nat => q = h ∨ q = fi ∨ q = la) := by
  refine Met.ofW (cc := cX1_readRuns) (maxL := 4) (ret := none) (by decide) rfl ?_
  intro p e s m args below meth c s₁ B hml hv9
  obtain ⟨rfl, hK, ⟨hh, hf, hla⟩, gh, ga, gne⟩ := hv9
  have hx := B.exec
  have hb := B.bytes
  have hr := B.returns
  have hts := atoms_spec (ws := wsX1_readRuns) B.pre
  have hown : s.vm.findClass RX1 = some m.cls := findClass_of_methodNamed B.named
  have hlocks := B.notSynchronized
  have hin1 : ∀ w ∈ wsX10, w ∈ wsX1_readRuns := by decide +kernel
  generalize hAe : (fun q : Nat => q = h ∨ q = fi ∨ q = la) = A
  have hA_h : A h := by subst hAe; first | rfl | exact Or.inl rfl | exact Or.inr rfl | (simp; done)
  have hA_fi : A fi := by subst hAe; first | rfl | exact Or.inl rfl | exact Or.inr rfl | (simp; done)
  have hA_la : A la := by subst hAe; first | rfl | exact Or.inl rfl | exact Or.inr rfl | (simp; done)
  have hS : va_S A s.heap s.heap [] := va_S.rf
  have hl := lv_entry ([.ref h, .ref g0, .int v]) (n := 4) (Nat.le_of_ble_eq_true rfl)
  rw [lg_entry_eq]
  generalize (lg_sl ([.ref h, .ref g0, .int v]) ++ List.replicate (4 - (lg_sl ([.ref h, .ref g0, .int v])).length) Slot.unset).toArray = ls at hl ⊢
  have hl : lv_has ls 4 [(0, .ref h), (1, .ref g0), (2, .int v)] := hl
  refine lv_aload_n hx hb dX1_readRuns_0 rfl (lv_at hl 0 rfl) ?_
  refine lv_iconst (v := nI 0) hx hb dX1_readRuns_1 (by decide) ?_
  refine q_put (v := .int (nI 0)) hx hb hts hin1 tyX1 tyX1_ok nmX1 hown hK hh rfl 2 (by decide) (hts (.fieldLink RX1 18 "PuddingstoneLine$SpanRow" "size" "I") (by decide +kernel)) (fun _ h9 => h9) rfl rfl rfl (Nat.le_of_ble_eq_true rfl) hS (hA_h) dX1_readRuns_2 (fun H1 locs1 hw9 oq hS => ?_)
  replace hf := hf.ne oq ((hd.1).symm)
  replace hla := hla.ne oq ((hd.2.1).symm)
  replace gh := gh.ne oq (fun h9 => hg0 (Or.inl h9))
  replace ga := ga.ne oq (fun h9 => ha0 (Or.inl h9))
  have hh := hw9
  refine lv_iconst (v := nI 0) hx hb dX1_readRuns_5 (by decide) ?_
  refine lv_istore_n (lv' := [(3, .int (nI 0)), (0, .ref h), (1, .ref g0), (2, .int v)]) hx hb dX1_readRuns_6 rfl hl (by decide) rfl (fun ls hl => ?_)
  refine q_for (fun (i : Nat) (H : Heap) (locs : List Loc) (ls : Array Slot) => va_S A s.heap H locs ∧ lv_has ls 4 [(3, .int (nI i)), (0, .ref h), (1, .ref g0), (2, .int v)] ∧ pAt D H h (eO 1 [.ref fi, .ref la, .int (nI ((rrR f v (F, L, n) i).2.2))]) ∧ pAt D H fi (eN (T 1) 201 ((rrR f v (F, L, n) i).1)) ∧ pAt D H la (eN (T 1) 201 ((rrR f v (F, L, n) i).2.1)) ∧ pAt D H g0 (eO 0 [.ref a0]) ∧ pAt D H a0 (eN (T 0) 201 f)) (N := 201) 0 (by omega) ?_ ?_ ?_
  · skip
    have e1 : (eO 1 [.ref fi, .ref la, .int (nI 0)]) = (eO 1 [.ref fi, .ref la, .int (nI ((rrR f v (F, L, n) 0).2.2))]) := by rfl
    have e2 : (eN (T 1) 201 F) = (eN (T 1) 201 ((rrR f v (F, L, n) 0).1)) := by rfl
    have e3 : (eN (T 1) 201 L) = (eN (T 1) 201 ((rrR f v (F, L, n) 0).2.1)) := by rfl
    exact ⟨hS, lv_sub hl [0, 1, 2, 3] rfl, (by rw [← e1]; exact hh), (by rw [← e2]; exact hf), (by rw [← e3]; exact hla), gh, ga⟩
  · skip
    intro i H locs ls hi9 hin9 hnext
    obtain ⟨hS, hl, hh, hf, hla, gh, ga⟩ := hin9
    refine lv_iload_n hx hb dX1_readRuns_7 rfl (lv_at hl 0 rfl) ?_
    refine lv_sipush (v := nI 201) hx hb dX1_readRuns_8 (by decide) ?_
    refine lv_icmp_ge (tgt := 54) hx hb dX1_readRuns_11 (by decide) (fun c11 => ?_) (fun c11 => ?_)
    · skip
      have c11 : 201 ≤ i := (nc_le (a := 201) (b := i) (by omega) (by omega)).mp c11
      omega
    · skip
      have c11 : ¬ (201 ≤ i) := fun q9 => c11 ((nc_le (a := 201) (b := i) (by omega) (by omega)).mpr q9)
      refine lv_aload_n hx hb dX1_readRuns_14 rfl (lv_at hl 2 rfl) ?_
      refine lv_iload_n hx hb dX1_readRuns_15 rfl (lv_at hl 0 rfl) ?_
      refine vp_callSi (va_runV (As := [.int (nI i)]) (rest := []) ⟨hx, hb, hml, hown, hts⟩ (conX0_holds l D T g0 a0 f (nI i)) (cwV 1 hts gX1_readRuns_X0_holds rfl rfl rfl (by decide +kernel) ⟨Nat.le_of_ble_eq_true rfl, Nat.le_of_ble_eq_true rfl⟩) (preV hK gh rfl ⟨gh, ga, gne⟩) rfl rfl hl.1 rfl (lv_room (Nat.le_of_ble_eq_true rfl)) dX1_readRuns_16 ⟨Nat.le_of_ble_eq_true rfl, Nat.le_of_ble_eq_true rfl⟩).run (fun r4 hr4 => ?_)
      subst hr4
      refine lv_iload_n hx hb dX1_readRuns_19 rfl (lv_at hl 3 rfl) ?_
      refine lv_icmp_ne (tgt := 48) hx hb dX1_readRuns_20 (by decide) (fun c20 => ?_) (fun c20 => ?_)
      · skip
        refine lv_iinc (v := nI (i + 1)) (lv' := [(3, .int (nI (i + 1))), (0, .ref h), (1, .ref g0), (2, .int v)]) hx hb dX1_readRuns_48 hl (k := 0) rfl (inc_1 _) (by decide) rfl (fun ls hl => ?_)
        refine lv_goto (tgt := 7) hx hb dX1_readRuns_51 (by decide) ?_
        have e5 : (eO 1 [.ref fi, .ref la, .int (nI ((rrR f v (F, L, n) i).2.2))]) = (eO 1 [.ref fi, .ref la, .int (nI ((rrR f v (F, L, n) (i + 1)).2.2))]) := by first | (rw [rrR_s, if_neg c20]; done) | (rw [rrR_s, if_pos c20, if_pos (Or.inl c24)]; try rfl) | (rw [rrR_s, if_pos c20, if_pos (Or.inr c35)]; try rfl) | (rw [rrR_s, if_pos c20, if_neg (fun h8 => h8.elim c24 (fun h7 => h7 c35))]; try rfl)
        have e6 : (eN (T 1) 201 ((rrR f v (F, L, n) i).1)) = (eN (T 1) 201 ((rrR f v (F, L, n) (i + 1)).1)) := by first | (rw [rrR_s, if_neg c20]; done) | (rw [rrR_s, if_pos c20, if_pos (Or.inl c24)]; try rfl) | (rw [rrR_s, if_pos c20, if_pos (Or.inr c35)]; try rfl) | (rw [rrR_s, if_pos c20, if_neg (fun h8 => h8.elim c24 (fun h7 => h7 c35))]; try rfl)
        have e7 : (eN (T 1) 201 ((rrR f v (F, L, n) i).2.1)) = (eN (T 1) 201 ((rrR f v (F, L, n) (i + 1)).2.1)) := by first | (rw [rrR_s, if_neg c20]; done) | (rw [rrR_s, if_pos c20, if_pos (Or.inl c24)]; try rfl) | (rw [rrR_s, if_pos c20, if_pos (Or.inr c35)]; try rfl) | (rw [rrR_s, if_pos c20, if_neg (fun h8 => h8.elim c24 (fun h7 => h7 c35))]; try rfl)
        exact hnext _ _ _ ⟨hS, lv_sub hl [0, 1, 2, 3] rfl, (by rw [← e5]; exact hh), (by rw [← e6]; exact hf), (by rw [← e7]; exact hla), gh, ga⟩
      · skip
        refine lv_iload_n hx hb dX1_readRuns_23 rfl (lv_at hl 0 rfl) ?_
        refine lv_if_eq (tgt := 38) hx hb dX1_readRuns_24 (by decide) (fun c24 => ?_) (fun c24 => ?_)
        · skip
          have c24 : i = 0 := (nc_eq (a := i) (b := 0) (by omega) (by omega)).mp c24
          refine lv_aload_n hx hb dX1_readRuns_38 rfl (lv_at hl 1 rfl) ?_
          refine lv_iload_n hx hb dX1_readRuns_39 rfl (lv_at hl 0 rfl) ?_
          refine va_callv (va_runV (As := [.int (nI i)]) (rest := []) ⟨hx, hb, hml, hown, hts⟩ (conX1_begin l D T h fi la ((rrR f v (F, L, n) i).1) ((rrR f v (F, L, n) i).2.1) ((rrR f v (F, L, n) i).2.2) hd (rrR_le f v (F, L, n) i) (nI i)) (cwV 1 hts gX1_readRuns_X1_begin rfl rfl rfl (by decide +kernel) ⟨Nat.le_of_ble_eq_true rfl, Nat.le_of_ble_eq_true rfl⟩) (preV hK hh rfl ⟨hh, hf, hla⟩) rfl rfl hl.1 rfl (lv_room (Nat.le_of_ble_eq_true rfl)) dX1_readRuns_40 ⟨Nat.le_of_ble_eq_true rfl, Nat.le_of_ble_eq_true rfl⟩) hS (fun q _ h9 => (by rcases (show q = h ∨ q = fi ∨ q = la from h9) with h8 | h8 | h8 <;> rw [h8]; exact hA_h; exact hA_fi; exact hA_la)) (fun q h9 => (by rcases (show q = h ∨ q = fi ∨ q = la from h9) with h8 | h8 | h8 <;> rw [h8]; exact hA_h; exact hA_fi; exact hA_la)) (fun u t H1 locs1 ht hvm hw9 hB hz1 hk1 hS => ?_)
          try dsimp only at hB
          rw [ht] at hB
          replace gh := gh.kept (hk1 _ gh.lt (fun h9 => hg0 h9))
          replace ga := ga.kept (hk1 _ ga.lt (fun h9 => ha0 h9))
          obtain ⟨hh, hf, hla⟩ := hB
          refine lv_aload_n hx hb dX1_readRuns_43 rfl (lv_at hl 1 rfl) ?_
          refine lv_iload_n hx hb dX1_readRuns_44 rfl (lv_at hl 0 rfl) ?_
          refine va_callv (va_runV (As := [.int (nI i)]) (rest := []) ⟨hx, hb, hml, hown, hts⟩ (conX1_extend l D T h fi la ((bgnR ((rrR f v (F, L, n) i).1, (rrR f v (F, L, n) i).2.1, (rrR f v (F, L, n) i).2.2) (nI i)).1) ((bgnR ((rrR f v (F, L, n) i).1, (rrR f v (F, L, n) i).2.1, (rrR f v (F, L, n) i).2.2) (nI i)).2.1) ((bgnR ((rrR f v (F, L, n) i).1, (rrR f v (F, L, n) i).2.1, (rrR f v (F, L, n) i).2.2) (nI i)).2.2) hd (bgnR_le (rrR_le f v (F, L, n) i)) (nI i)) (cwV 1 hts gX1_readRuns_X1_extend rfl rfl rfl (by decide +kernel) ⟨Nat.le_of_ble_eq_true rfl, Nat.le_of_ble_eq_true rfl⟩) (preV hK hh rfl ⟨hh, hf, hla⟩) rfl rfl hl.1 rfl (lv_room (Nat.le_of_ble_eq_true rfl)) dX1_readRuns_45 ⟨Nat.le_of_ble_eq_true rfl, Nat.le_of_ble_eq_true rfl⟩) hS (fun q _ h9 => (by rcases (show q = h ∨ q = fi ∨ q = la from h9) with h8 | h8 | h8 <;> rw [h8]; exact hA_h; exact hA_fi; exact hA_la)) (fun q h9 => (by rcases (show q = h ∨ q = fi ∨ q = la from h9) with h8 | h8 | h8 <;> rw [h8]; exact hA_h; exact hA_fi; exact hA_la)) (fun u t H1 locs1 ht hvm hw9 hB hz1 hk1 hS => ?_)
          try dsimp only at hB
          rw [ht] at hB
          replace gh := gh.kept (hk1 _ gh.lt (fun h9 => hg0 h9))
          replace ga := ga.kept (hk1 _ ga.lt (fun h9 => ha0 h9))
          obtain ⟨hh, hf, hla⟩ := hB
          refine lv_iinc (v := nI (i + 1)) (lv' := [(3, .int (nI (i + 1))), (0, .ref h), (1, .ref g0), (2, .int v)]) hx hb dX1_readRuns_48 hl (k := 0) rfl (inc_1 _) (by decide) rfl (fun ls hl => ?_)
          refine lv_goto (tgt := 7) hx hb dX1_readRuns_51 (by decide) ?_
          have e8 : (eO 1 [.ref fi, .ref la, .int (nI ((extR ((bgnR ((rrR f v (F, L, n) i).1, (rrR f v (F, L, n) i).2.1, (rrR f v (F, L, n) i).2.2) (nI i)).1, (bgnR ((rrR f v (F, L, n) i).1, (rrR f v (F, L, n) i).2.1, (rrR f v (F, L, n) i).2.2) (nI i)).2.1, (bgnR ((rrR f v (F, L, n) i).1, (rrR f v (F, L, n) i).2.1, (rrR f v (F, L, n) i).2.2) (nI i)).2.2) (nI i)).2.2))]) = (eO 1 [.ref fi, .ref la, .int (nI ((rrR f v (F, L, n) (i + 1)).2.2))]) := by first | (rw [rrR_s, if_neg c20]; done) | (rw [rrR_s, if_pos c20, if_pos (Or.inl c24)]; try rfl) | (rw [rrR_s, if_pos c20, if_pos (Or.inr c35)]; try rfl) | (rw [rrR_s, if_pos c20, if_neg (fun h8 => h8.elim c24 (fun h7 => h7 c35))]; try rfl)
          have e9 : (eN (T 1) 201 ((extR ((bgnR ((rrR f v (F, L, n) i).1, (rrR f v (F, L, n) i).2.1, (rrR f v (F, L, n) i).2.2) (nI i)).1, (bgnR ((rrR f v (F, L, n) i).1, (rrR f v (F, L, n) i).2.1, (rrR f v (F, L, n) i).2.2) (nI i)).2.1, (bgnR ((rrR f v (F, L, n) i).1, (rrR f v (F, L, n) i).2.1, (rrR f v (F, L, n) i).2.2) (nI i)).2.2) (nI i)).1)) = (eN (T 1) 201 ((rrR f v (F, L, n) (i + 1)).1)) := by first | (rw [rrR_s, if_neg c20]; done) | (rw [rrR_s, if_pos c20, if_pos (Or.inl c24)]; try rfl) | (rw [rrR_s, if_pos c20, if_pos (Or.inr c35)]; try rfl) | (rw [rrR_s, if_pos c20, if_neg (fun h8 => h8.elim c24 (fun h7 => h7 c35))]; try rfl)
          have e10 : (eN (T 1) 201 ((extR ((bgnR ((rrR f v (F, L, n) i).1, (rrR f v (F, L, n) i).2.1, (rrR f v (F, L, n) i).2.2) (nI i)).1, (bgnR ((rrR f v (F, L, n) i).1, (rrR f v (F, L, n) i).2.1, (rrR f v (F, L, n) i).2.2) (nI i)).2.1, (bgnR ((rrR f v (F, L, n) i).1, (rrR f v (F, L, n) i).2.1, (rrR f v (F, L, n) i).2.2) (nI i)).2.2) (nI i)).2.1)) = (eN (T 1) 201 ((rrR f v (F, L, n) (i + 1)).2.1)) := by first | (rw [rrR_s, if_neg c20]; done) | (rw [rrR_s, if_pos c20, if_pos (Or.inl c24)]; try rfl) | (rw [rrR_s, if_pos c20, if_pos (Or.inr c35)]; try rfl) | (rw [rrR_s, if_pos c20, if_neg (fun h8 => h8.elim c24 (fun h7 => h7 c35))]; try rfl)
          exact hnext _ _ _ ⟨hS, lv_sub hl [0, 1, 2, 3] rfl, (by rw [← e8]; exact hh), (by rw [← e9]; exact hf), (by rw [← e10]; exact hla), gh, ga⟩
        · skip
          have c24 : ¬ (i = 0) := fun q9 => c24 ((nc_eq (a := i) (b := 0) (by omega) (by omega)).mpr q9)
          refine lv_aload_n hx hb dX1_readRuns_27 rfl (lv_at hl 2 rfl) ?_
          refine lv_iload_n hx hb dX1_readRuns_28 rfl (lv_at hl 0 rfl) ?_
          refine lv_iconst (v := nI 1) hx hb dX1_readRuns_29 (by decide) ?_
          refine lv_isub hx hb dX1_readRuns_30 ?_
          refine vp_callSi (va_runV (As := [.int ((nI i) - (nI 1))]) (rest := []) ⟨hx, hb, hml, hown, hts⟩ (conX0_holds l D T g0 a0 f ((nI i) - (nI 1))) (cwV 1 hts gX1_readRuns_X0_holds rfl rfl rfl (by decide +kernel) ⟨Nat.le_of_ble_eq_true rfl, Nat.le_of_ble_eq_true rfl⟩) (preV hK gh rfl ⟨gh, ga, gne⟩) rfl rfl hl.1 rfl (lv_room (Nat.le_of_ble_eq_true rfl)) dX1_readRuns_31 ⟨Nat.le_of_ble_eq_true rfl, Nat.le_of_ble_eq_true rfl⟩).run (fun r11 hr11 => ?_)
          subst hr11
          refine lv_iload_n hx hb dX1_readRuns_34 rfl (lv_at hl 3 rfl) ?_
          refine lv_icmp_eq (tgt := 43) hx hb dX1_readRuns_35 (by decide) (fun c35 => ?_) (fun c35 => ?_)
          · skip
            refine lv_aload_n hx hb dX1_readRuns_43 rfl (lv_at hl 1 rfl) ?_
            refine lv_iload_n hx hb dX1_readRuns_44 rfl (lv_at hl 0 rfl) ?_
            refine va_callv (va_runV (As := [.int (nI i)]) (rest := []) ⟨hx, hb, hml, hown, hts⟩ (conX1_extend l D T h fi la ((rrR f v (F, L, n) i).1) ((rrR f v (F, L, n) i).2.1) ((rrR f v (F, L, n) i).2.2) hd (rrR_le f v (F, L, n) i) (nI i)) (cwV 1 hts gX1_readRuns_X1_extend rfl rfl rfl (by decide +kernel) ⟨Nat.le_of_ble_eq_true rfl, Nat.le_of_ble_eq_true rfl⟩) (preV hK hh rfl ⟨hh, hf, hla⟩) rfl rfl hl.1 rfl (lv_room (Nat.le_of_ble_eq_true rfl)) dX1_readRuns_45 ⟨Nat.le_of_ble_eq_true rfl, Nat.le_of_ble_eq_true rfl⟩) hS (fun q _ h9 => (by rcases (show q = h ∨ q = fi ∨ q = la from h9) with h8 | h8 | h8 <;> rw [h8]; exact hA_h; exact hA_fi; exact hA_la)) (fun q h9 => (by rcases (show q = h ∨ q = fi ∨ q = la from h9) with h8 | h8 | h8 <;> rw [h8]; exact hA_h; exact hA_fi; exact hA_la)) (fun u t H1 locs1 ht hvm hw9 hB hz1 hk1 hS => ?_)
            try dsimp only at hB
            rw [ht] at hB
            replace gh := gh.kept (hk1 _ gh.lt (fun h9 => hg0 h9))
            replace ga := ga.kept (hk1 _ ga.lt (fun h9 => ha0 h9))
            obtain ⟨hh, hf, hla⟩ := hB
            refine lv_iinc (v := nI (i + 1)) (lv' := [(3, .int (nI (i + 1))), (0, .ref h), (1, .ref g0), (2, .int v)]) hx hb dX1_readRuns_48 hl (k := 0) rfl (inc_1 _) (by decide) rfl (fun ls hl => ?_)
            refine lv_goto (tgt := 7) hx hb dX1_readRuns_51 (by decide) ?_
            have e12 : (eO 1 [.ref fi, .ref la, .int (nI ((extR ((rrR f v (F, L, n) i).1, (rrR f v (F, L, n) i).2.1, (rrR f v (F, L, n) i).2.2) (nI i)).2.2))]) = (eO 1 [.ref fi, .ref la, .int (nI ((rrR f v (F, L, n) (i + 1)).2.2))]) := by first | (rw [rrR_s, if_neg c20]; done) | (rw [rrR_s, if_pos c20, if_pos (Or.inl c24)]; try rfl) | (rw [rrR_s, if_pos c20, if_pos (Or.inr c35)]; try rfl) | (rw [rrR_s, if_pos c20, if_neg (fun h8 => h8.elim c24 (fun h7 => h7 c35))]; try rfl)
            have e13 : (eN (T 1) 201 ((extR ((rrR f v (F, L, n) i).1, (rrR f v (F, L, n) i).2.1, (rrR f v (F, L, n) i).2.2) (nI i)).1)) = (eN (T 1) 201 ((rrR f v (F, L, n) (i + 1)).1)) := by first | (rw [rrR_s, if_neg c20]; done) | (rw [rrR_s, if_pos c20, if_pos (Or.inl c24)]; try rfl) | (rw [rrR_s, if_pos c20, if_pos (Or.inr c35)]; try rfl) | (rw [rrR_s, if_pos c20, if_neg (fun h8 => h8.elim c24 (fun h7 => h7 c35))]; try rfl)
            have e14 : (eN (T 1) 201 ((extR ((rrR f v (F, L, n) i).1, (rrR f v (F, L, n) i).2.1, (rrR f v (F, L, n) i).2.2) (nI i)).2.1)) = (eN (T 1) 201 ((rrR f v (F, L, n) (i + 1)).2.1)) := by first | (rw [rrR_s, if_neg c20]; done) | (rw [rrR_s, if_pos c20, if_pos (Or.inl c24)]; try rfl) | (rw [rrR_s, if_pos c20, if_pos (Or.inr c35)]; try rfl) | (rw [rrR_s, if_pos c20, if_neg (fun h8 => h8.elim c24 (fun h7 => h7 c35))]; try rfl)
            exact hnext _ _ _ ⟨hS, lv_sub hl [0, 1, 2, 3] rfl, (by rw [← e12]; exact hh), (by rw [← e13]; exact hf), (by rw [← e14]; exact hla), gh, ga⟩
          · skip
            refine lv_aload_n hx hb dX1_readRuns_38 rfl (lv_at hl 1 rfl) ?_
            refine lv_iload_n hx hb dX1_readRuns_39 rfl (lv_at hl 0 rfl) ?_
            refine va_callv (va_runV (As := [.int (nI i)]) (rest := []) ⟨hx, hb, hml, hown, hts⟩ (conX1_begin l D T h fi la ((rrR f v (F, L, n) i).1) ((rrR f v (F, L, n) i).2.1) ((rrR f v (F, L, n) i).2.2) hd (rrR_le f v (F, L, n) i) (nI i)) (cwV 1 hts gX1_readRuns_X1_begin rfl rfl rfl (by decide +kernel) ⟨Nat.le_of_ble_eq_true rfl, Nat.le_of_ble_eq_true rfl⟩) (preV hK hh rfl ⟨hh, hf, hla⟩) rfl rfl hl.1 rfl (lv_room (Nat.le_of_ble_eq_true rfl)) dX1_readRuns_40 ⟨Nat.le_of_ble_eq_true rfl, Nat.le_of_ble_eq_true rfl⟩) hS (fun q _ h9 => (by rcases (show q = h ∨ q = fi ∨ q = la from h9) with h8 | h8 | h8 <;> rw [h8]; exact hA_h; exact hA_fi; exact hA_la)) (fun q h9 => (by rcases (show q = h ∨ q = fi ∨ q = la from h9) with h8 | h8 | h8 <;> rw [h8]; exact hA_h; exact hA_fi; exact hA_la)) (fun u t H1 locs1 ht hvm hw9 hB hz1 hk1 hS => ?_)
            try dsimp only at hB
            rw [ht] at hB
            replace gh := gh.kept (hk1 _ gh.lt (fun h9 => hg0 h9))
            replace ga := ga.kept (hk1 _ ga.lt (fun h9 => ha0 h9))
            obtain ⟨hh, hf, hla⟩ := hB
            refine lv_aload_n hx hb dX1_readRuns_43 rfl (lv_at hl 1 rfl) ?_
            refine lv_iload_n hx hb dX1_readRuns_44 rfl (lv_at hl 0 rfl) ?_
            refine va_callv (va_runV (As := [.int (nI i)]) (rest := []) ⟨hx, hb, hml, hown, hts⟩ (conX1_extend l D T h fi la ((bgnR ((rrR f v (F, L, n) i).1, (rrR f v (F, L, n) i).2.1, (rrR f v (F, L, n) i).2.2) (nI i)).1) ((bgnR ((rrR f v (F, L, n) i).1, (rrR f v (F, L, n) i).2.1, (rrR f v (F, L, n) i).2.2) (nI i)).2.1) ((bgnR ((rrR f v (F, L, n) i).1, (rrR f v (F, L, n) i).2.1, (rrR f v (F, L, n) i).2.2) (nI i)).2.2) hd (bgnR_le (rrR_le f v (F, L, n) i)) (nI i)) (cwV 1 hts gX1_readRuns_X1_extend rfl rfl rfl (by decide +kernel) ⟨Nat.le_of_ble_eq_true rfl, Nat.le_of_ble_eq_true rfl⟩) (preV hK hh rfl ⟨hh, hf, hla⟩) rfl rfl hl.1 rfl (lv_room (Nat.le_of_ble_eq_true rfl)) dX1_readRuns_45 ⟨Nat.le_of_ble_eq_true rfl, Nat.le_of_ble_eq_true rfl⟩) hS (fun q _ h9 => (by rcases (show q = h ∨ q = fi ∨ q = la from h9) with h8 | h8 | h8 <;> rw [h8]; exact hA_h; exact hA_fi; exact hA_la)) (fun q h9 => (by rcases (show q = h ∨ q = fi ∨ q = la from h9) with h8 | h8 | h8 <;> rw [h8]; exact hA_h; exact hA_fi; exact hA_la)) (fun u t H1 locs1 ht hvm hw9 hB hz1 hk1 hS => ?_)
            try dsimp only at hB
            rw [ht] at hB
            replace gh := gh.kept (hk1 _ gh.lt (fun h9 => hg0 h9))
            replace ga := ga.kept (hk1 _ ga.lt (fun h9 => ha0 h9))
            obtain ⟨hh, hf, hla⟩ := hB
            refine lv_iinc (v := nI (i + 1)) (lv' := [(3, .int (nI (i + 1))), (0, .ref h), (1, .ref g0), (2, .int v)]) hx hb dX1_readRuns_48 hl (k := 0) rfl (inc_1 _) (by decide) rfl (fun ls hl => ?_)
            refine lv_goto (tgt := 7) hx hb dX1_readRuns_51 (by decide) ?_
            have e15 : (eO 1 [.ref fi, .ref la, .int (nI ((extR ((bgnR ((rrR f v (F, L, n) i).1, (rrR f v (F, L, n) i).2.1, (rrR f v (F, L, n) i).2.2) (nI i)).1, (bgnR ((rrR f v (F, L, n) i).1, (rrR f v (F, L, n) i).2.1, (rrR f v (F, L, n) i).2.2) (nI i)).2.1, (bgnR ((rrR f v (F, L, n) i).1, (rrR f v (F, L, n) i).2.1, (rrR f v (F, L, n) i).2.2) (nI i)).2.2) (nI i)).2.2))]) = (eO 1 [.ref fi, .ref la, .int (nI ((rrR f v (F, L, n) (i + 1)).2.2))]) := by first | (rw [rrR_s, if_neg c20]; done) | (rw [rrR_s, if_pos c20, if_pos (Or.inl c24)]; try rfl) | (rw [rrR_s, if_pos c20, if_pos (Or.inr c35)]; try rfl) | (rw [rrR_s, if_pos c20, if_neg (fun h8 => h8.elim c24 (fun h7 => h7 c35))]; try rfl)
            have e16 : (eN (T 1) 201 ((extR ((bgnR ((rrR f v (F, L, n) i).1, (rrR f v (F, L, n) i).2.1, (rrR f v (F, L, n) i).2.2) (nI i)).1, (bgnR ((rrR f v (F, L, n) i).1, (rrR f v (F, L, n) i).2.1, (rrR f v (F, L, n) i).2.2) (nI i)).2.1, (bgnR ((rrR f v (F, L, n) i).1, (rrR f v (F, L, n) i).2.1, (rrR f v (F, L, n) i).2.2) (nI i)).2.2) (nI i)).1)) = (eN (T 1) 201 ((rrR f v (F, L, n) (i + 1)).1)) := by first | (rw [rrR_s, if_neg c20]; done) | (rw [rrR_s, if_pos c20, if_pos (Or.inl c24)]; try rfl) | (rw [rrR_s, if_pos c20, if_pos (Or.inr c35)]; try rfl) | (rw [rrR_s, if_pos c20, if_neg (fun h8 => h8.elim c24 (fun h7 => h7 c35))]; try rfl)
            have e17 : (eN (T 1) 201 ((extR ((bgnR ((rrR f v (F, L, n) i).1, (rrR f v (F, L, n) i).2.1, (rrR f v (F, L, n) i).2.2) (nI i)).1, (bgnR ((rrR f v (F, L, n) i).1, (rrR f v (F, L, n) i).2.1, (rrR f v (F, L, n) i).2.2) (nI i)).2.1, (bgnR ((rrR f v (F, L, n) i).1, (rrR f v (F, L, n) i).2.1, (rrR f v (F, L, n) i).2.2) (nI i)).2.2) (nI i)).2.1)) = (eN (T 1) 201 ((rrR f v (F, L, n) (i + 1)).2.1)) := by first | (rw [rrR_s, if_neg c20]; done) | (rw [rrR_s, if_pos c20, if_pos (Or.inl c24)]; try rfl) | (rw [rrR_s, if_pos c20, if_pos (Or.inr c35)]; try rfl) | (rw [rrR_s, if_pos c20, if_neg (fun h8 => h8.elim c24 (fun h7 => h7 c35))]; try rfl)
            exact hnext _ _ _ ⟨hS, lv_sub hl [0, 1, 2, 3] rfl, (by rw [← e15]; exact hh), (by rw [← e16]; exact hf), (by rw [← e17]; exact hla), gh, ga⟩
  · skip
    intro H locs ls hin9
    obtain ⟨hS, hl, hh, hf, hla, gh, ga⟩ := hin9
    refine lv_iload_n hx hb dX1_readRuns_7 rfl (lv_at hl 0 rfl) ?_
    refine lv_sipush (v := nI 201) hx hb dX1_readRuns_8 (by decide) ?_
    refine lv_icmp_ge (tgt := 54) hx hb dX1_readRuns_11 (by decide) (fun c11 => ?_) (fun c11 => ?_)
    · skip
      have c11 : 201 ≤ 201 := (nc_le (a := 201) (b := 201) (by omega) (by omega)).mp c11
      exact W.vret hx hb hr (fun t ht _ => ⟨⟨(), rfl, trivial, by dsimp only; rw [ht]; exact ⟨hh, hf, hla⟩⟩, hS.F ht⟩) hS.2.2 dX1_readRuns_54
    · skip
      have c11 : ¬ (201 ≤ 201) := fun q9 => c11 ((nc_le (a := 201) (b := 201) (by omega) (by omega)).mpr q9)
      omega
