/-! STONES: THE GRAINS OF A ROW OF SPANS -/
theorem chiC_z {P : Nat → Prop} (h : ∀ g : Nat, ¬ P g) : chiC P = zr0 := by
  funext g
  exact chiC_n (h g)
theorem row_x {i : Nat} {a b : Nat → Nat} {g : Nat} (h : a i ≤ b i) : (inN i a b g ∨ (a i ≤ g ∧ g < a i + (b i + 1 - a i))) ↔ inN (i + 1) a b g := by
  rw [inN_s]
  constructor
  · rintro (q | q)
    · exact Or.inl q
    · exact Or.inr (by omega)
  · rintro (q | q)
    · exact Or.inl q
    · exact Or.inr (by omega)
theorem row_0 {i : Nat} {a b : Nat → Nat} {g : Nat} : inN i a b g ↔ (inN i a b g ∨ (a i ≤ g ∧ g < a i + 0)) := ⟨Or.inl, fun q => q.elim id fun q => absurd q (by omega)⟩
theorem row_u {i j : Nat} {a b : Nat → Nat} {g : Nat} : (inN i a b g ∨ (a i ≤ g ∧ g < a i + (j + 1))) ↔ (inN i a b g ∨ (a i ≤ g ∧ g < a i + j)) ∨ g = a i + j := by
  constructor
  · rintro (q | q)
    · exact Or.inl (Or.inl q)
    · by_cases e : g = a i + j
      · exact Or.inr e
      · exact Or.inl (Or.inr (by omega))
  · rintro ((q | q) | q)
    · exact Or.inl q
    · exact Or.inr (by omega)
    · exact Or.inr (by omega)
set_option maxHeartbeats 4000000 in
set_option maxRecDepth 100000 in
theorem conX4_row (l : Launch) (D : va_G) (T : Nat → ClassId) (sz w q : Nat) (ads : Nat → Nat) (n : Nat) (a b : Nat → Nat) (hSp : ∀ k : Nat, k < n → a k ≤ b k ∧ b k ≤ 200) (hn : n ≤ 101) : Met l yX4_row wsX4_row ({ frames := 0, cells := 1, slots := 201, locals := 0 }) (cP D T [.ref q] (fun H => H.size = sz ∧ ILA D T w q ads n a b H)) (va_Qr (fun (_ : Unit) => True) (fun _ r t => r = sz ∧ t.heap.size = sz + 1 ∧ pAt D t.heap r (eN (T 0) 201 (chiC (inN n a b)))) (fun z : Nat => sz ≤ z)) 1 201 (fun z : Nat => sz ≤ z) := by
  refine Met.ofW (cc := cX4_row) (maxL := 7) (ret := (some (.array .boolean))) (by decide) rfl ?_
  intro p e s m args below meth c s₁ B hml hv9
  obtain ⟨rfl, hK, hsz, hil⟩ := hv9
  have hx := B.exec
  have hb := B.bytes
  have hr := B.returns
  have hts := atoms_spec (ws := wsX4_row) B.pre
  have hown : s.vm.findClass RX4 = some m.cls := findClass_of_methodNamed B.named
  have hlocks := B.notSynchronized
  generalize hAe : (fun z : Nat => sz ≤ z) = A
  have hA : ∀ z : Nat, s.heap.size ≤ z → A z := fun z h9 => by subst hAe; show sz ≤ z; omega
  have hS : va_S A s.heap s.heap [] := va_S.rf
  have hl := lv_entry ([.ref q]) (n := 7) (Nat.le_of_ble_eq_true rfl)
  rw [lg_entry_eq]
  generalize (lg_sl ([.ref q]) ++ List.replicate (7 - (lg_sl ([.ref q])).length) Slot.unset).toArray = ls at hl ⊢
  have hl : lv_has ls 7 [(0, .ref q)] := hl
  have hold : ∀ z : Nat, z < s.heap.size → s.heap[z]? = s.heap[z]? := fun _ _ => rfl
  refine lv_sipush (v := nI 201) hx hb dX4_row_0 (by decide) ?_
  obtain ⟨b1, hb1⟩ : ∃ z : Nat, z = s.heap.size := ⟨_, rfl⟩
  have ln_b1 : s.heap.size ≤ b1 := by have h8 := hS.1; omega
  refine q_newz hx hb (hts (.arrayClass .boolean) (by decide +kernel)) hK 201 rfl (by decide) (by show _ ≤ 1; omega) (by show _ ≤ 201; omega) hS dX4_row_3 (fun H1 hw9 z1 o1 hS => ?_)
  rw [← hb1] at hw9 ⊢
  have nb1 := hw9
  have sb1 : H1.size = b1 + 1 := by omega
  replace hold := fun (z : Nat) (hz : z < s.heap.size) => (o1 z (by omega)).trans (hold z hz)
  refine lv_astore_n (lv' := [(1, .ref b1), (0, .ref q)]) hx hb dX4_row_5 rfl hl (by decide) rfl (fun ls hl => ?_)
  refine lv_aload_n hx hb dX4_row_6 rfl (lv_at hl 1 rfl) ?_
  refine lv_astore_n (lv' := [(2, .ref q), (1, .ref b1), (0, .ref q)]) hx hb dX4_row_7 rfl hl (by decide) rfl (fun ls hl => ?_)
  refine lv_aload_n hx hb dX4_row_8 rfl (lv_at hl 0 rfl) ?_
  refine q_len hx hb hK 5 rfl (hil.old hold).1 dX4_row_9 ?_
  refine lv_istore_n (lv' := [(3, .int (nI n)), (2, .ref q), (1, .ref b1), (0, .ref q)]) hx hb dX4_row_10 rfl hl (by decide) rfl (fun ls hl => ?_)
  refine lv_iconst (v := nI 0) hx hb dX4_row_11 (by decide) ?_
  refine lv_istore (lv' := [(4, .int (nI 0)), (3, .int (nI n)), (2, .ref q), (1, .ref b1), (0, .ref q)]) hx hb dX4_row_12 hl (by decide) rfl (fun ls hl => ?_)
  refine q_for (fun (i : Nat) (H : Heap) (locs : List Loc) (ls : Array Slot) => va_S A s.heap H locs ∧ lv_has ls 7 [(4, .int (nI i)), (3, .int (nI n)), (2, .ref q), (1, .ref b1), (0, .ref q)] ∧ pAt D H b1 (eN (T 0) 201 (chiC (inN i a b))) ∧ H.size = b1 + 1 ∧ ∀ z : Nat, z < s.heap.size → H[z]? = s.heap[z]?) (N := n) 0 (by omega) ?_ ?_ ?_
  · skip
    have e1 : (eN (T 0) 201 zr0) = (eN (T 0) 201 (chiC (inN 0 a b))) := by (rw [chiC_z fun g => inN_0])
    exact ⟨hS, lv_sub hl [0, 1, 2, 3, 4] rfl, (by rw [← e1]; exact nb1), (by omega), (by exact hold)⟩
  · skip
    intro i H locs ls hi9 hin9 hnext
    obtain ⟨hS, hl, nb1, hz8, hold⟩ := hin9
    refine lv_iload hx hb dX4_row_14 (lv_at hl 0 rfl) ?_
    refine lv_iload_n hx hb dX4_row_16 rfl (lv_at hl 1 rfl) ?_
    refine lv_icmp_ge (tgt := 58) hx hb dX4_row_17 (by decide) (fun c17 => ?_) (fun c17 => ?_)
    · skip
      have c17 : n ≤ i := (nc_le (a := n) (b := i) (by omega) (by omega)).mp c17
      omega
    · skip
      have c17 : ¬ (n ≤ i) := fun q9 => c17 ((nc_le (a := n) (b := i) (by omega) (by omega)).mpr q9)
      have hs9 := hSp i (by omega)
      refine lv_aload_n hx hb dX4_row_20 rfl (lv_at hl 2 rfl) ?_
      refine lv_iload hx hb dX4_row_21 (lv_at hl 0 rfl) ?_
      refine q_aald hx hb hK 5 rfl rfl (hil.old hold).1 i rfl (by omega) (by omega) (b := ads i) rfl dX4_row_23 ?_
      refine lv_astore (lv' := [(5, .ref (ads i)), (4, .int (nI i)), (3, .int (nI n)), (2, .ref q), (1, .ref b1), (0, .ref q)]) hx hb dX4_row_24 hl (by decide) rfl (fun ls hl => ?_)
      refine lv_aload hx hb dX4_row_26 (lv_at hl 0 rfl) ?_
      refine lv_iconst (v := nI 0) hx hb dX4_row_28 (by decide) ?_
      refine q_iald hx hb hK ((hil.old hold).2 i (by omega)).2 0 (rfl) (by omega) (by decide) dX4_row_29 ?_
      refine W.eq (g2 := F0 m 30 ls [.int (nI (a i))]) rfl ?_
      refine lv_istore (lv' := [(6, .int (nI (a i))), (5, .ref (ads i)), (4, .int (nI i)), (3, .int (nI n)), (2, .ref q), (1, .ref b1), (0, .ref q)]) hx hb dX4_row_30 hl (by decide) rfl (fun ls hl => ?_)
      refine q_for (fun (j : Nat) (H : Heap) (locs : List Loc) (ls : Array Slot) => va_S A s.heap H locs ∧ lv_has ls 7 [(6, .int (nI (a i + j))), (5, .ref (ads i)), (4, .int (nI i)), (3, .int (nI n)), (2, .ref q), (1, .ref b1), (0, .ref q)] ∧ pAt D H b1 (eN (T 0) 201 (chiC (fun g => inN i a b g ∨ (a i ≤ g ∧ g < a i + j)))) ∧ H.size = b1 + 1 ∧ ∀ z : Nat, z < s.heap.size → H[z]? = s.heap[z]?) (N := (b i + 1 - a i)) 0 (by omega) ?_ ?_ ?_
      · skip
        have e2 : nI (a i) = nI (a i + 0) := by rfl
        have e3 : (eN (T 0) 201 (chiC (inN i a b))) = (eN (T 0) 201 (chiC (fun g => inN i a b g ∨ (a i ≤ g ∧ g < a i + 0)))) := by (rw [chiC_e fun g => row_0])
        exact ⟨hS, lv_sub (lv_ex hl 0 rfl (congrArg Value.int e2)) [0, 1, 2, 3, 4, 5, 6] rfl, (by rw [← e3]; exact nb1), (by omega), (by exact hold)⟩
      · skip
        intro j H locs ls hi9_j hin9 hnext_j
        obtain ⟨hS, hl, nb1, hz8, hold⟩ := hin9
        refine lv_iload hx hb dX4_row_32 (lv_at hl 0 rfl) ?_
        refine lv_aload hx hb dX4_row_34 (lv_at hl 1 rfl) ?_
        refine lv_iconst (v := nI 1) hx hb dX4_row_36 (by decide) ?_
        refine q_iald hx hb hK ((hil.old hold).2 i (by omega)).2 1 (rfl) (by omega) (by decide) dX4_row_37 ?_
        refine W.eq (g2 := F0 m 38 ls [.int (nI (b i)), .int (nI (a i + j))]) rfl ?_
        refine lv_icmp_gt (tgt := 52) hx hb dX4_row_38 (by decide) (fun c38 => ?_) (fun c38 => ?_)
        · skip
          have c38 : b i < a i + j := (nc_lt (a := b i) (b := a i + j) (by omega) (by omega)).mp c38
          omega
        · skip
          have c38 : ¬ (b i < a i + j) := fun q9 => c38 ((nc_lt (a := b i) (b := a i + j) (by omega) (by omega)).mpr q9)
          refine lv_aload_n hx hb dX4_row_41 rfl (lv_at hl 5 rfl) ?_
          refine lv_iload hx hb dX4_row_42 (lv_at hl 0 rfl) ?_
          refine lv_iconst (v := nI 1) hx hb dX4_row_44 (by decide) ?_
          refine q_zast hx hb hK nb1 (a i + j) (rfl) (by omega) (by decide) (rfl) hS (hA _ (by omega)) dX4_row_45 (fun H1 locs1 hw9 hz oq hS => ?_)
          have nb1 := hw9
          replace hold := fun (z : Nat) (hz : z < s.heap.size) => (oq z (by omega)).trans (hold z hz)
          refine lv_iinc (v := nI (a i + j + 1)) (lv' := [(6, .int (nI (a i + j + 1))), (5, .ref (ads i)), (4, .int (nI i)), (3, .int (nI n)), (2, .ref q), (1, .ref b1), (0, .ref q)]) hx hb dX4_row_46 hl (k := 0) rfl (inc_1 _) (by decide) rfl (fun ls hl => ?_)
          refine lv_goto (tgt := 32) hx hb dX4_row_49 (by decide) ?_
          have e4 : nI (a i + j + 1) = nI (a i + (j + 1)) := by rfl
          have e5 : (eN (T 0) 201 (upd (chiC (fun g => inN i a b g ∨ (a i ≤ g ∧ g < a i + j))) (a i + j) (nI 1))) = (eN (T 0) 201 (chiC (fun g => inN i a b g ∨ (a i ≤ g ∧ g < a i + (j + 1))))) := by (rw [chiC_u fun g => row_u])
          exact hnext_j _ _ _ ⟨hS, lv_sub (lv_ex hl 0 rfl (congrArg Value.int e4)) [0, 1, 2, 3, 4, 5, 6] rfl, (by rw [← e5]; exact nb1), (by omega), (by exact hold)⟩
      · skip
        intro H locs ls hin9
        obtain ⟨hS, hl, nb1, hz8, hold⟩ := hin9
        refine lv_iload hx hb dX4_row_32 (lv_at hl 0 rfl) ?_
        refine lv_aload hx hb dX4_row_34 (lv_at hl 1 rfl) ?_
        refine lv_iconst (v := nI 1) hx hb dX4_row_36 (by decide) ?_
        refine q_iald hx hb hK ((hil.old hold).2 i (by omega)).2 1 (rfl) (by omega) (by decide) dX4_row_37 ?_
        refine W.eq (g2 := F0 m 38 ls [.int (nI (b i)), .int (nI (a i + (b i + 1 - a i)))]) rfl ?_
        refine lv_icmp_gt (tgt := 52) hx hb dX4_row_38 (by decide) (fun c38 => ?_) (fun c38 => ?_)
        · skip
          have c38 : b i < a i + (b i + 1 - a i) := (nc_lt (a := b i) (b := a i + (b i + 1 - a i)) (by omega) (by omega)).mp c38
          refine lv_iinc (v := nI (i + 1)) (lv' := [(4, .int (nI (i + 1))), (6, .int (nI (a i + (b i + 1 - a i)))), (5, .ref (ads i)), (3, .int (nI n)), (2, .ref q), (1, .ref b1), (0, .ref q)]) hx hb dX4_row_52 hl (k := 2) rfl (inc_1 _) (by decide) rfl (fun ls hl => ?_)
          refine lv_goto (tgt := 14) hx hb dX4_row_55 (by decide) ?_
          have e6 : (eN (T 0) 201 (chiC (fun g => inN i a b g ∨ (a i ≤ g ∧ g < a i + (b i + 1 - a i))))) = (eN (T 0) 201 (chiC (inN (i + 1) a b))) := by (rw [chiC_e fun g => row_x hs9.1])
          exact hnext _ _ _ ⟨hS, lv_sub hl [0, 3, 4, 5, 6] rfl, (by rw [← e6]; exact nb1), (by omega), (by exact hold)⟩
        · skip
          have c38 : ¬ (b i < a i + (b i + 1 - a i)) := fun q9 => c38 ((nc_lt (a := b i) (b := a i + (b i + 1 - a i)) (by omega) (by omega)).mpr q9)
          omega
  · skip
    intro H locs ls hin9
    obtain ⟨hS, hl, nb1, hz8, hold⟩ := hin9
    refine lv_iload hx hb dX4_row_14 (lv_at hl 0 rfl) ?_
    refine lv_iload_n hx hb dX4_row_16 rfl (lv_at hl 1 rfl) ?_
    refine lv_icmp_ge (tgt := 58) hx hb dX4_row_17 (by decide) (fun c17 => ?_) (fun c17 => ?_)
    · skip
      have c17 : n ≤ n := (nc_le (a := n) (b := n) (by omega) (by omega)).mp c17
      refine lv_aload_n hx hb dX4_row_58 rfl (lv_at hl 3 rfl) ?_
      exact W.aret (v := .ref b1) hx hb hr (Or.inr ⟨_, rfl⟩) (Or.inr ⟨_, rfl⟩) (fun t ht _ => ⟨⟨(), b1, rfl, trivial, by dsimp only; rw [ht]; exact ⟨by omega, by omega, nb1⟩⟩, hS.F ht⟩) hS.2.2 dX4_row_59
    · skip
      have c17 : ¬ (n ≤ n) := fun q9 => c17 ((nc_le (a := n) (b := n) (by omega) (by omega)).mpr q9)
      omega
