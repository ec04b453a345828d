/-! THE MODEL'S METHODS ON ROWS, the others -/
def stpM (f : Nat → Int32) (n : Nat) : Int32 := itr (fun i c => if f (i + 1) = f i then c else c + 1) n (nI 1)
theorem stpM_p {f : Nat → Int32} {n : Nat} (h : f (n + 1) = f (n + 1 - 1)) : stpM f (n + 1) = stpM f n + nI 0 := by
  have h1 : stpM f (n + 1) = if f (n + 1) = f n then stpM f n else stpM f n + 1 := rfl
  rw [h1, if_pos (show f (n + 1) = f n from h)]
  exact (Int32.add_zero _).symm
theorem stpM_n {f : Nat → Int32} {n : Nat} (h : ¬ f (n + 1) = f (n + 1 - 1)) : stpM f (n + 1) = stpM f n + nI 1 := by
  have h1 : stpM f (n + 1) = if f (n + 1) = f n then stpM f n else stpM f n + 1 := rfl
  rw [h1, if_neg (show ¬ f (n + 1) = f n from h)]
  rfl
theorem stpM_c (v : Int32) (n : Nat) : stpM (fun _ => v) n = nI 1 := by
  induction n with
  | zero => rfl
  | succ n ih =>
    rw [stpM_p (f := fun _ => v) (n := n) rfl, ih]
    rfl
theorem stpM_z : stpM zr0 200 = nI 1 := stpM_c (nI 0) 200
def keptM (x : Int32) : Int32 := jmax (-10000) (jmin (nI 10000) x)
theorem keptM_0 : keptM (nI 0) = nI 0 := by decide
theorem mixV_0 {k : Nat} : mixV (nI 0) (nI 0) k = nI 0 := by
  unfold mixV
  repeat' split
  all_goals first | rfl | decide
theorem jmax_z0 {a : Nat} (ha : a < 2 ^ 31) : jmax (nI 0) (nI a) = nI a := by
  rw [jmax_nat (by decide) ha, Nat.zero_max]
theorem jmax_zs {i r : Nat} (hi : i < 2 ^ 30) (hr : r < 2 ^ 30) : jmax (nI 0) (nI i - nI r) = nI (i - r) := by
  unfold jmax
  rcases Nat.lt_or_ge i r with h | h
  · rw [if_neg, show i - r = 0 by omega]
    intro q
    exact Int32.lt_irrefl (Int32.lt_trans q (pk_sneg hr h))
  · rw [pk_sub h]
    by_cases h0 : i - r = 0
    · rw [h0]
      rfl
    · rw [if_pos ((nI_ltI (by decide) (by omega)).mpr (by omega))]
set_option maxHeartbeats 4000000 in
set_option maxRecDepth 100000 in
theorem conX4_longOf_ (l : Launch) (D : va_G) (T : Nat → ClassId) (a : Nat) : Met l yX4_longOf_ wsX4_longOf_ ({ frames := 0, cells := 0, slots := 0, locals := 0 }) (cP D T [.ref a] (fun H => pAt D H a (eN (T 0) 201 zr0))) (vp_Si (fun r => r = nI 0)) 0 0 (fun _ => False) := by
  refine Met.ofW (cc := cX4_longOf_) (maxL := 3) (ret := (some .int)) (by decide) rfl ?_
  intro p e s m args below meth c s₁ B hml hv9
  obtain ⟨rfl, hK, ha⟩ := hv9
  have hx := B.exec
  have hb := B.bytes
  have hr := B.returns
  have hts := atoms_spec (ws := wsX4_longOf_) B.pre
  have hown : s.vm.findClass RX4 = some m.cls := findClass_of_methodNamed B.named
  have hlocks := B.notSynchronized
  have hl := lv_entry ([.ref a]) (n := 3) (Nat.le_of_ble_eq_true rfl)
  rw [lg_entry_eq]
  generalize (lg_sl ([.ref a]) ++ List.replicate (3 - (lg_sl ([.ref a])).length) Slot.unset).toArray = ls at hl ⊢
  have hl : lv_has ls 3 [(0, .ref a)] := hl
  refine lv_iconst (v := nI 0) hx hb dX4_longOf__0 (by decide) ?_
  refine lv_istore_n (lv' := [(1, .int (nI 0)), (0, .ref a)]) hx hb dX4_longOf__1 rfl hl (by decide) rfl (fun ls hl => ?_)
  refine lv_iconst (v := nI 1) hx hb dX4_longOf__2 (by decide) ?_
  refine lv_istore_n (lv' := [(2, .int (nI 1)), (1, .int (nI 0)), (0, .ref a)]) hx hb dX4_longOf__3 rfl hl (by decide) rfl (fun ls hl => ?_)
  refine q_for (fun (i : Nat) (H : Heap) (locs : List Loc) (ls : Array Slot) => H = s.heap ∧ locs = [] ∧ lv_has ls 3 [(2, .int (nI (2 * i + 1))), (1, .int (nI 0)), (0, .ref a)]) (N := 100) 0 (by omega) ?_ ?_ ?_
  · skip
    exact ⟨rfl, rfl, lv_sub hl [0, 1, 2] rfl⟩
  · skip
    intro i H locs ls hi9 hin9 hnext
    obtain ⟨rfl, rfl, hl⟩ := hin9
    refine lv_iload_n hx hb dX4_longOf__4 rfl (lv_at hl 0 rfl) ?_
    refine lv_sipush (v := nI 201) hx hb dX4_longOf__5 (by decide) ?_
    refine lv_icmp_ge (tgt := 31) hx hb dX4_longOf__8 (by decide) (fun c8 => ?_) (fun c8 => ?_)
    · skip
      have c8 : 201 ≤ 2 * i + 1 := (nc_le (a := 201) (b := 2 * i + 1) (by omega) (by omega)).mp c8
      omega
    · skip
      have c8 : ¬ (201 ≤ 2 * i + 1) := fun q9 => c8 ((nc_le (a := 201) (b := 2 * i + 1) (by omega) (by omega)).mpr q9)
      refine lv_iload_n hx hb dX4_longOf__11 rfl (lv_at hl 1 rfl) ?_
      refine lv_aload_n hx hb dX4_longOf__12 rfl (lv_at hl 2 rfl) ?_
      refine lv_iload_n hx hb dX4_longOf__13 rfl (lv_at hl 0 rfl) ?_
      refine q_zald hx hb hK ha (2 * i + 1) (rfl) (by omega) (by decide) dX4_longOf__14 ?_
      refine W.eq (g2 := F0 m 15 ls [.int (nI 0), .int (nI 0)]) rfl ?_
      refine lv_if_eq (tgt := 22) hx hb dX4_longOf__15 (by decide) (fun c15 => ?_) (fun c15 => ?_)
      · skip
        have c15 : 0 = 0 := (nc_eq (a := 0) (b := 0) (by omega) (by omega)).mp c15
        refine lv_iconst (v := nI 0) hx hb dX4_longOf__22 (by decide) ?_
        refine lv_iadd hx hb dX4_longOf__23 ?_
        rw [nI_add]
        refine lv_istore_n (lv' := [(1, .int (nI 0)), (2, .int (nI (2 * i + 1))), (0, .ref a)]) hx hb dX4_longOf__24 rfl hl (by decide) rfl (fun ls hl => ?_)
        refine lv_iinc (v := nI ((2 * i + 1) + 2)) (lv' := [(2, .int (nI ((2 * i + 1) + 2))), (1, .int (nI 0)), (0, .ref a)]) hx hb dX4_longOf__25 hl (k := 1) rfl (inc_2 _) (by decide) rfl (fun ls hl => ?_)
        refine lv_goto (tgt := 4) hx hb dX4_longOf__28 (by decide) ?_
        have e1 : nI ((2 * i + 1) + 2) = nI (2 * (i + 1) + 1) := by (first | rfl | (congr 1; omega))
        exact hnext _ _ _ ⟨rfl, rfl, lv_sub (lv_ex hl 0 rfl (congrArg Value.int e1)) [0, 1, 2] rfl⟩
      · skip
        have c15 : ¬ (0 = 0) := fun q9 => c15 ((nc_eq (a := 0) (b := 0) (by omega) (by omega)).mpr q9)
        omega
  · skip
    intro H locs ls hin9
    obtain ⟨rfl, rfl, hl⟩ := hin9
    refine lv_iload_n hx hb dX4_longOf__4 rfl (lv_at hl 0 rfl) ?_
    refine lv_sipush (v := nI 201) hx hb dX4_longOf__5 (by decide) ?_
    refine lv_icmp_ge (tgt := 31) hx hb dX4_longOf__8 (by decide) (fun c8 => ?_) (fun c8 => ?_)
    · skip
      have c8 : 201 ≤ 201 := (nc_le (a := 201) (b := 201) (by omega) (by omega)).mp c8
      refine lv_iload_n hx hb dX4_longOf__31 rfl (lv_at hl 1 rfl) ?_
      exact W.iret (v := nI 0) hx hb hr (fun t ht _ => ⟨nI 0, rfl, by rfl, ht⟩) (fun q hq => absurd hq List.not_mem_nil) dX4_longOf__32
    · skip
      have c8 : ¬ (201 ≤ 201) := fun q9 => c8 ((nc_le (a := 201) (b := 201) (by omega) (by omega)).mpr q9)
      omega

set_option maxHeartbeats 4000000 in
set_option maxRecDepth 100000 in
theorem conX4_isAlone (l : Launch) (D : va_G) (T : Nat → ClassId) (a k : Nat) (hk : k < 201) : Met l yX4_isAlone wsX4_isAlone ({ frames := 0, cells := 0, slots := 0, locals := 0 }) (cP D T [.ref a, .int (nI k)] (fun H => pAt D H a (eN (T 0) 201 zr0))) (vp_Si (fun r => r = nI 0)) 0 0 (fun _ => False) := by
  refine Met.ofW (cc := cX4_isAlone) (maxL := 2) (ret := (some .boolean)) (by decide) rfl ?_
  intro p e s m args below meth c s₁ B hml hv9
  obtain ⟨rfl, hK, ha⟩ := hv9
  have hx := B.exec
  have hb := B.bytes
  have hr := B.returns
  have hts := atoms_spec (ws := wsX4_isAlone) B.pre
  have hown : s.vm.findClass RX4 = some m.cls := findClass_of_methodNamed B.named
  have hlocks := B.notSynchronized
  have hl := lv_entry ([.ref a, .int (nI k)]) (n := 2) (Nat.le_of_ble_eq_true rfl)
  rw [lg_entry_eq]
  generalize (lg_sl ([.ref a, .int (nI k)]) ++ List.replicate (2 - (lg_sl ([.ref a, .int (nI k)])).length) Slot.unset).toArray = ls at hl ⊢
  have hl : lv_has ls 2 [(0, .ref a), (1, .int (nI k))] := hl
  refine lv_iload_n hx hb dX4_isAlone_0 rfl (lv_at hl 1 rfl) ?_
  refine lv_iconst (v := nI 2) hx hb dX4_isAlone_1 (by decide) ?_
  refine lv_irem hx hb dX4_isAlone_2 (by decide) ?_
  rw [pk_rem (a := k) (d := 2) (by omega) (by omega) (by omega)]
  refine lv_if_ne (tgt := 36) hx hb dX4_isAlone_3 (by decide) (fun c3 => ?_) (fun c3 => ?_)
  · skip
    have c3 : ¬ (k % 2 = 0) := fun q9 => c3 ((nc_eq (a := k % 2) (b := 0) (by omega) (by omega)).mpr q9)
    refine lv_iconst (v := nI 0) hx hb dX4_isAlone_36 (by decide) ?_
    exact W.zret (v := nI 0) hx hb hr (rfl) (fun t ht _ => ⟨nI 0, rfl, by rfl, ht⟩) (fun q hq => absurd hq List.not_mem_nil) dX4_isAlone_37
  · skip
    have c3 : k % 2 = 0 := (nc_eq (a := k % 2) (b := 0) (by omega) (by omega)).mp c3
    refine lv_aload_n hx hb dX4_isAlone_6 rfl (lv_at hl 0 rfl) ?_
    refine lv_iload_n hx hb dX4_isAlone_7 rfl (lv_at hl 1 rfl) ?_
    refine q_zald hx hb hK ha k (rfl) (by omega) (by decide) dX4_isAlone_8 ?_
    refine W.eq (g2 := F0 m 9 ls [.int (nI 0)]) rfl ?_
    refine lv_if_eq (tgt := 36) hx hb dX4_isAlone_9 (by decide) (fun c9 => ?_) (fun c9 => ?_)
    · skip
      have c9 : 0 = 0 := (nc_eq (a := 0) (b := 0) (by omega) (by omega)).mp c9
      refine lv_iconst (v := nI 0) hx hb dX4_isAlone_36 (by decide) ?_
      exact W.zret (v := nI 0) hx hb hr (rfl) (fun t ht _ => ⟨nI 0, rfl, by rfl, ht⟩) (fun q hq => absurd hq List.not_mem_nil) dX4_isAlone_37
    · skip
      have c9 : ¬ (0 = 0) := fun q9 => c9 ((nc_eq (a := 0) (b := 0) (by omega) (by omega)).mpr q9)
      omega

set_option maxHeartbeats 4000000 in
set_option maxRecDepth 100000 in
theorem conX4_alone (l : Launch) (D : va_G) (T : Nat → ClassId) (a : Nat) : Met l yX4_alone wsX4_alone ({ frames := 1, cells := 0, slots := 0, locals := 21 }) (cP D T [.ref a] (fun H => pAt D H a (eN (T 0) 201 zr0))) (vp_Si (fun r => r = nI 0)) 0 0 (fun _ => False) := by
  refine Met.ofW (cc := cX4_alone) (maxL := 3) (ret := (some .int)) (by decide) rfl ?_
  intro p e s m args below meth c s₁ B hml hv9
  obtain ⟨rfl, hK, ha⟩ := hv9
  have hx := B.exec
  have hb := B.bytes
  have hr := B.returns
  have hts := atoms_spec (ws := wsX4_alone) B.pre
  have hown : s.vm.findClass RX4 = some m.cls := findClass_of_methodNamed B.named
  have hlocks := B.notSynchronized
  have hl := lv_entry ([.ref a]) (n := 3) (Nat.le_of_ble_eq_true rfl)
  rw [lg_entry_eq]
  generalize (lg_sl ([.ref a]) ++ List.replicate (3 - (lg_sl ([.ref a])).length) Slot.unset).toArray = ls at hl ⊢
  have hl : lv_has ls 3 [(0, .ref a)] := hl
  refine lv_iconst (v := nI 0) hx hb dX4_alone_0 (by decide) ?_
  refine lv_istore_n (lv' := [(1, .int (nI 0)), (0, .ref a)]) hx hb dX4_alone_1 rfl hl (by decide) rfl (fun ls hl => ?_)
  refine lv_iconst (v := nI 0) hx hb dX4_alone_2 (by decide) ?_
  refine lv_istore_n (lv' := [(2, .int (nI 0)), (1, .int (nI 0)), (0, .ref a)]) hx hb dX4_alone_3 rfl hl (by decide) rfl (fun ls hl => ?_)
  refine q_for (fun (i : Nat) (H : Heap) (locs : List Loc) (ls : Array Slot) => H = s.heap ∧ locs = [] ∧ lv_has ls 3 [(2, .int (nI (2 * i))), (1, .int (nI 0)), (0, .ref a)]) (N := 101) 0 (by omega) ?_ ?_ ?_
  · skip
    exact ⟨rfl, rfl, lv_sub hl [0, 1, 2] rfl⟩
  · skip
    intro i H locs ls hi9 hin9 hnext
    obtain ⟨rfl, rfl, hl⟩ := hin9
    refine lv_iload_n hx hb dX4_alone_4 rfl (lv_at hl 0 rfl) ?_
    refine lv_sipush (v := nI 201) hx hb dX4_alone_5 (by decide) ?_
    refine lv_icmp_ge (tgt := 33) hx hb dX4_alone_8 (by decide) (fun c8 => ?_) (fun c8 => ?_)
    · skip
      have c8 : 201 ≤ 2 * i := (nc_le (a := 201) (b := 2 * i) (by omega) (by omega)).mp c8
      omega
    · skip
      have c8 : ¬ (201 ≤ 2 * i) := fun q9 => c8 ((nc_le (a := 201) (b := 2 * i) (by omega) (by omega)).mpr q9)
      refine lv_iload_n hx hb dX4_alone_11 rfl (lv_at hl 1 rfl) ?_
      refine lv_aload_n hx hb dX4_alone_12 rfl (lv_at hl 2 rfl) ?_
      refine lv_iload_n hx hb dX4_alone_13 rfl (lv_at hl 0 rfl) ?_
      refine vp_callSi (va_runS (As := [.ref a, .int (nI (2 * i))]) (rest := [.int (nI 0)]) ⟨hx, hb, hml, hown, hts⟩ (conX4_isAlone l D T a (2 * i) (by omega)) (va_cwS 2 hts gX4_alone_X4_isAlone rfl rfl rfl (by decide +kernel) ⟨Nat.le_of_ble_eq_true rfl, Nat.le_of_ble_eq_true rfl⟩) (preS hK ha) rfl rfl hl.1 rfl (lv_room (Nat.le_of_ble_eq_true rfl)) dX4_alone_14 ⟨Nat.le_of_ble_eq_true rfl, Nat.le_of_ble_eq_true rfl⟩).run (fun r1 hr1 => ?_)
      rw [hr1]
      refine lv_if_eq (tgt := 24) hx hb dX4_alone_17 (by decide) (fun c17 => ?_) (fun c17 => ?_)
      · skip
        have c17 : 0 = 0 := (nc_eq (a := 0) (b := 0) (by omega) (by omega)).mp c17
        refine lv_iconst (v := nI 0) hx hb dX4_alone_24 (by decide) ?_
        refine lv_iadd hx hb dX4_alone_25 ?_
        rw [nI_add]
        refine lv_istore_n (lv' := [(1, .int (nI 0)), (2, .int (nI (2 * i))), (0, .ref a)]) hx hb dX4_alone_26 rfl hl (by decide) rfl (fun ls hl => ?_)
        refine lv_iinc (v := nI ((2 * i) + 2)) (lv' := [(2, .int (nI ((2 * i) + 2))), (1, .int (nI 0)), (0, .ref a)]) hx hb dX4_alone_27 hl (k := 1) rfl (inc_2 _) (by decide) rfl (fun ls hl => ?_)
        refine lv_goto (tgt := 4) hx hb dX4_alone_30 (by decide) ?_
        have e2 : nI ((2 * i) + 2) = nI (2 * (i + 1)) := by (first | rfl | (congr 1; omega))
        exact hnext _ _ _ ⟨rfl, rfl, lv_sub (lv_ex hl 0 rfl (congrArg Value.int e2)) [0, 1, 2] rfl⟩
      · skip
        have c17 : ¬ (0 = 0) := fun q9 => c17 ((nc_eq (a := 0) (b := 0) (by omega) (by omega)).mpr q9)
        omega
  · skip
    intro H locs ls hin9
    obtain ⟨rfl, rfl, hl⟩ := hin9
    refine lv_iload_n hx hb dX4_alone_4 rfl (lv_at hl 0 rfl) ?_
    refine lv_sipush (v := nI 201) hx hb dX4_alone_5 (by decide) ?_
    refine lv_icmp_ge (tgt := 33) hx hb dX4_alone_8 (by decide) (fun c8 => ?_) (fun c8 => ?_)
    · skip
      have c8 : 201 ≤ 202 := (nc_le (a := 201) (b := 202) (by omega) (by omega)).mp c8
      refine lv_iload_n hx hb dX4_alone_33 rfl (lv_at hl 1 rfl) ?_
      exact W.iret (v := nI 0) hx hb hr (fun t ht _ => ⟨nI 0, rfl, by rfl, ht⟩) (fun q hq => absurd hq List.not_mem_nil) dX4_alone_34
    · skip
      have c8 : ¬ (201 ≤ 202) := fun q9 => c8 ((nc_le (a := 201) (b := 202) (by omega) (by omega)).mpr q9)
      omega

set_option maxHeartbeats 4000000 in
set_option maxRecDepth 100000 in
theorem conX4_steps (l : Launch) (D : va_G) (T : Nat → ClassId) (a : Nat) (f : Nat → Int32) : Met l yX4_steps wsX4_steps ({ frames := 0, cells := 0, slots := 0, locals := 0 }) (cP D T [.ref a] (fun H => pAt D H a (eN (T 1) 201 f))) (vp_Si (fun r => r = stpM f 200)) 0 0 (fun _ => False) := by
  refine Met.ofW (cc := cX4_steps) (maxL := 3) (ret := (some .int)) (by decide) rfl ?_
  intro p e s m args below meth c s₁ B hml hv9
  obtain ⟨rfl, hK, ha⟩ := hv9
  have hx := B.exec
  have hb := B.bytes
  have hr := B.returns
  have hts := atoms_spec (ws := wsX4_steps) B.pre
  have hown : s.vm.findClass RX4 = some m.cls := findClass_of_methodNamed B.named
  have hlocks := B.notSynchronized
  have hl := lv_entry ([.ref a]) (n := 3) (Nat.le_of_ble_eq_true rfl)
  rw [lg_entry_eq]
  generalize (lg_sl ([.ref a]) ++ List.replicate (3 - (lg_sl ([.ref a])).length) Slot.unset).toArray = ls at hl ⊢
  have hl : lv_has ls 3 [(0, .ref a)] := hl
  refine lv_iconst (v := nI 1) hx hb dX4_steps_0 (by decide) ?_
  refine lv_istore_n (lv' := [(1, .int (nI 1)), (0, .ref a)]) hx hb dX4_steps_1 rfl hl (by decide) rfl (fun ls hl => ?_)
  refine lv_iconst (v := nI 1) hx hb dX4_steps_2 (by decide) ?_
  refine lv_istore_n (lv' := [(2, .int (nI 1)), (1, .int (nI 1)), (0, .ref a)]) hx hb dX4_steps_3 rfl hl (by decide) rfl (fun ls hl => ?_)
  refine q_for (fun (i : Nat) (H : Heap) (locs : List Loc) (ls : Array Slot) => H = s.heap ∧ locs = [] ∧ lv_has ls 3 [(2, .int (nI (i + 1))), (1, .int (stpM f i)), (0, .ref a)]) (N := 200) 0 (by omega) ?_ ?_ ?_
  · skip
    have e1 : nI 1 = stpM f 0 := by rfl
    exact ⟨rfl, rfl, lv_sub (lv_ex hl 1 rfl (congrArg Value.int e1)) [0, 1, 2] rfl⟩
  · skip
    intro i H locs ls hi9 hin9 hnext
    obtain ⟨rfl, rfl, hl⟩ := hin9
    refine lv_iload_n hx hb dX4_steps_4 rfl (lv_at hl 0 rfl) ?_
    refine lv_sipush (v := nI 201) hx hb dX4_steps_5 (by decide) ?_
    refine lv_icmp_ge (tgt := 36) hx hb dX4_steps_8 (by decide) (fun c8 => ?_) (fun c8 => ?_)
    · skip
      have c8 : 201 ≤ i + 1 := (nc_le (a := 201) (b := i + 1) (by omega) (by omega)).mp c8
      omega
    · skip
      have c8 : ¬ (201 ≤ i + 1) := fun q9 => c8 ((nc_le (a := 201) (b := i + 1) (by omega) (by omega)).mpr q9)
      refine lv_iload_n hx hb dX4_steps_11 rfl (lv_at hl 1 rfl) ?_
      refine lv_aload_n hx hb dX4_steps_12 rfl (lv_at hl 2 rfl) ?_
      refine lv_iload_n hx hb dX4_steps_13 rfl (lv_at hl 0 rfl) ?_
      refine q_iald hx hb hK ha (i + 1) (rfl) (by omega) (by decide) dX4_steps_14 ?_
      refine lv_aload_n hx hb dX4_steps_15 rfl (lv_at hl 2 rfl) ?_
      refine lv_iload_n hx hb dX4_steps_16 rfl (lv_at hl 0 rfl) ?_
      refine lv_iconst (v := nI 1) hx hb dX4_steps_17 (by decide) ?_
      refine lv_isub hx hb dX4_steps_18 ?_
      rw [pk_sub (a := i + 1) (b := 1) (by omega)]
      refine q_iald hx hb hK ha ((i + 1) - 1) (rfl) (by omega) (by decide) dX4_steps_19 ?_
      refine lv_icmp_ne (tgt := 27) hx hb dX4_steps_20 (by decide) (fun c20 => ?_) (fun c20 => ?_)
      · skip
        refine lv_iconst (v := nI 1) hx hb dX4_steps_27 (by decide) ?_
        refine lv_iadd hx hb dX4_steps_28 ?_
        refine lv_istore_n (lv' := [(1, .int ((stpM f i) + (nI 1))), (2, .int (nI (i + 1))), (0, .ref a)]) hx hb dX4_steps_29 rfl hl (by decide) rfl (fun ls hl => ?_)
        refine lv_iinc (v := nI (i + 1 + 1)) (lv' := [(2, .int (nI (i + 1 + 1))), (1, .int ((stpM f i) + (nI 1))), (0, .ref a)]) hx hb dX4_steps_30 hl (k := 1) rfl (inc_1 _) (by decide) rfl (fun ls hl => ?_)
        refine lv_goto (tgt := 4) hx hb dX4_steps_33 (by decide) ?_
        have e2 : nI (i + 1 + 1) = nI ((i + 1) + 1) := by rfl
        have e3 : (stpM f i) + (nI 1) = stpM f (i + 1) := by first | exact (stpM_p c20).symm | exact (stpM_n c20).symm
        exact hnext _ _ _ ⟨rfl, rfl, lv_sub (lv_ex (lv_ex hl 0 rfl (congrArg Value.int e2)) 1 rfl (congrArg Value.int e3)) [0, 1, 2] rfl⟩
      · skip
        refine lv_iconst (v := nI 0) hx hb dX4_steps_23 (by decide) ?_
        refine lv_goto (tgt := 28) hx hb dX4_steps_24 (by decide) ?_
        refine lv_iadd hx hb dX4_steps_28 ?_
        refine lv_istore_n (lv' := [(1, .int ((stpM f i) + (nI 0))), (2, .int (nI (i + 1))), (0, .ref a)]) hx hb dX4_steps_29 rfl hl (by decide) rfl (fun ls hl => ?_)
        refine lv_iinc (v := nI (i + 1 + 1)) (lv' := [(2, .int (nI (i + 1 + 1))), (1, .int ((stpM f i) + (nI 0))), (0, .ref a)]) hx hb dX4_steps_30 hl (k := 1) rfl (inc_1 _) (by decide) rfl (fun ls hl => ?_)
        refine lv_goto (tgt := 4) hx hb dX4_steps_33 (by decide) ?_
        have e4 : nI (i + 1 + 1) = nI ((i + 1) + 1) := by rfl
        have e5 : (stpM f i) + (nI 0) = stpM f (i + 1) := by first | exact (stpM_p c20).symm | exact (stpM_n c20).symm
        exact hnext _ _ _ ⟨rfl, rfl, lv_sub (lv_ex (lv_ex hl 0 rfl (congrArg Value.int e4)) 1 rfl (congrArg Value.int e5)) [0, 1, 2] rfl⟩
  · skip
    intro H locs ls hin9
    obtain ⟨rfl, rfl, hl⟩ := hin9
    refine lv_iload_n hx hb dX4_steps_4 rfl (lv_at hl 0 rfl) ?_
    refine lv_sipush (v := nI 201) hx hb dX4_steps_5 (by decide) ?_
    refine lv_icmp_ge (tgt := 36) hx hb dX4_steps_8 (by decide) (fun c8 => ?_) (fun c8 => ?_)
    · skip
      have c8 : 201 ≤ 201 := (nc_le (a := 201) (b := 201) (by omega) (by omega)).mp c8
      refine lv_iload_n hx hb dX4_steps_36 rfl (lv_at hl 1 rfl) ?_
      exact W.iret (v := stpM f 200) hx hb hr (fun t ht _ => ⟨stpM f 200, rfl, by rfl, ht⟩) (fun q hq => absurd hq List.not_mem_nil) dX4_steps_37
    · skip
      have c8 : ¬ (201 ≤ 201) := fun q9 => c8 ((nc_le (a := 201) (b := 201) (by omega) (by omega)).mpr q9)
      omega

set_option maxHeartbeats 4000000 in
set_option maxRecDepth 100000 in
theorem conX4_kept (l : Launch) (D : va_G) (T : Nat → ClassId) (x : Int32) : Met l yX4_kept wsX4_kept ({ frames := 1, cells := 0, slots := 0, locals := 14 }) (cP D T [.int x] (fun H => True)) (vp_Si (fun r => r = keptM x)) 0 0 (fun _ => False) := by
  refine Met.ofW (cc := cX4_kept) (maxL := 1) (ret := (some .int)) (by decide) rfl ?_
  intro p e s m args below meth c s₁ B hml hv9
  obtain ⟨rfl, hK, -⟩ := hv9
  have hx := B.exec
  have hb := B.bytes
  have hr := B.returns
  have hts := atoms_spec (ws := wsX4_kept) B.pre
  have hown : s.vm.findClass RX4 = some m.cls := findClass_of_methodNamed B.named
  have hlocks := B.notSynchronized
  have hl := lv_entry ([.int x]) (n := 1) (Nat.le_of_ble_eq_true rfl)
  rw [lg_entry_eq]
  generalize (lg_sl ([.int x]) ++ List.replicate (1 - (lg_sl ([.int x])).length) Slot.unset).toArray = ls at hl ⊢
  have hl : lv_has ls 1 [(0, .int x)] := hl
  refine lv_sipush (v := (-10000)) hx hb dX4_kept_0 (by decide) ?_
  refine lv_sipush (v := nI 10000) hx hb dX4_kept_3 (by decide) ?_
  refine lv_iload_n hx hb dX4_kept_6 rfl (lv_at hl 0 rfl) ?_
  refine va_mmin hx hb (hml.trans hl.1.symm) hown (hts (.methodLink RX4 99 Lib.Math.min.name) (by decide +kernel)) (hts (.static Lib.Math.min.name) (by decide +kernel)) (hts (.initialized "java/lang/Math") (by decide +kernel)) (hts (.code Lib.Math.min.name Lib.Math.min.code 2 (some .int)) (by decide +kernel)) (Nat.le_of_ble_eq_true rfl) (Nat.le_of_ble_eq_true rfl) (Nat.le_of_ble_eq_true rfl) (Nat.le_of_ble_eq_true rfl) dX4_kept_7 ?_
  refine va_mmax hx hb (hml.trans hl.1.symm) hown (hts (.methodLink RX4 35 Lib.Math.max.name) (by decide +kernel)) (hts (.static Lib.Math.max.name) (by decide +kernel)) (hts (.initialized "java/lang/Math") (by decide +kernel)) (hts (.code Lib.Math.max.name Lib.Math.max.code 2 (some .int)) (by decide +kernel)) (Nat.le_of_ble_eq_true rfl) (Nat.le_of_ble_eq_true rfl) (Nat.le_of_ble_eq_true rfl) (Nat.le_of_ble_eq_true rfl) dX4_kept_10 ?_
  exact W.iret (v := jmax (-10000) (jmin (nI 10000) x)) hx hb hr (fun t ht _ => ⟨jmax (-10000) (jmin (nI 10000) x), rfl, by rfl, ht⟩) (fun q hq => absurd hq List.not_mem_nil) dX4_kept_13

set_option maxHeartbeats 4000000 in
set_option maxRecDepth 100000 in
theorem conX4_mixed (l : Launch) (D : va_G) (T : Nat → ClassId) (x y : Int32) (k : Nat) (hk : k ≤ 4) : Met l yX4_mixed wsX4_mixed ({ frames := 1, cells := 0, slots := 0, locals := 13 }) (cP D T [.int x, .int y, .int (nI k)] (fun H => True)) (vp_Si (fun r => r = mixV x y k)) 0 0 (fun _ => False) := by
  refine Met.ofW (cc := cX4_mixed) (maxL := 3) (ret := (some .int)) (by decide) rfl ?_
  intro p e s m args below meth c s₁ B hml hv9
  obtain ⟨rfl, hK, -⟩ := hv9
  have hx := B.exec
  have hb := B.bytes
  have hr := B.returns
  have hts := atoms_spec (ws := wsX4_mixed) B.pre
  have hown : s.vm.findClass RX4 = some m.cls := findClass_of_methodNamed B.named
  have hlocks := B.notSynchronized
  have hl := lv_entry ([.int x, .int y, .int (nI k)]) (n := 3) (Nat.le_of_ble_eq_true rfl)
  rw [lg_entry_eq]
  generalize (lg_sl ([.int x, .int y, .int (nI k)]) ++ List.replicate (3 - (lg_sl ([.int x, .int y, .int (nI k)])).length) Slot.unset).toArray = ls at hl ⊢
  have hl : lv_has ls 3 [(0, .int x), (1, .int y), (2, .int (nI k))] := hl
  refine lv_iload_n hx hb dX4_mixed_0 rfl (lv_at hl 2 rfl) ?_
  by_cases e1_0 : k = 0
  · skip
    refine lv_tableIn (off := 31) (tgt := 32) hx hb dX4_mixed_1 (by rw [e1_0]; decide) (by rw [e1_0]; decide) (by rw [e1_0]; rfl) (by decide) ?_
    refine lv_iload_n hx hb dX4_mixed_32 rfl (lv_at hl 0 rfl) ?_
    refine lv_iload_n hx hb dX4_mixed_33 rfl (lv_at hl 1 rfl) ?_
    refine lv_iadd hx hb dX4_mixed_34 ?_
    exact W.iret (v := x + y) hx hb hr (fun t ht _ => ⟨x + y, rfl, by rw [mixV, if_pos e1_0], ht⟩) (fun q hq => absurd hq List.not_mem_nil) dX4_mixed_35
  by_cases e1_1 : k = 1
  · skip
    refine lv_tableIn (off := 35) (tgt := 36) hx hb dX4_mixed_1 (by rw [e1_1]; decide) (by rw [e1_1]; decide) (by rw [e1_1]; rfl) (by decide) ?_
    refine lv_iload_n hx hb dX4_mixed_36 rfl (lv_at hl 0 rfl) ?_
    refine lv_iload_n hx hb dX4_mixed_37 rfl (lv_at hl 1 rfl) ?_
    refine va_mmin hx hb (hml.trans hl.1.symm) hown (hts (.methodLink RX4 99 Lib.Math.min.name) (by decide +kernel)) (hts (.static Lib.Math.min.name) (by decide +kernel)) (hts (.initialized "java/lang/Math") (by decide +kernel)) (hts (.code Lib.Math.min.name Lib.Math.min.code 2 (some .int)) (by decide +kernel)) (Nat.le_of_ble_eq_true rfl) (Nat.le_of_ble_eq_true rfl) (Nat.le_of_ble_eq_true rfl) (Nat.le_of_ble_eq_true rfl) dX4_mixed_38 ?_
    exact W.iret (v := jmin x y) hx hb hr (fun t ht _ => ⟨jmin x y, rfl, by rw [mixV, if_neg (by omega), if_pos e1_1], ht⟩) (fun q hq => absurd hq List.not_mem_nil) dX4_mixed_41
  by_cases e1_2 : k = 2
  · skip
    refine lv_tableIn (off := 41) (tgt := 42) hx hb dX4_mixed_1 (by rw [e1_2]; decide) (by rw [e1_2]; decide) (by rw [e1_2]; rfl) (by decide) ?_
    refine lv_iload_n hx hb dX4_mixed_42 rfl (lv_at hl 0 rfl) ?_
    refine lv_iload_n hx hb dX4_mixed_43 rfl (lv_at hl 1 rfl) ?_
    refine va_mmax hx hb (hml.trans hl.1.symm) hown (hts (.methodLink RX4 35 Lib.Math.max.name) (by decide +kernel)) (hts (.static Lib.Math.max.name) (by decide +kernel)) (hts (.initialized "java/lang/Math") (by decide +kernel)) (hts (.code Lib.Math.max.name Lib.Math.max.code 2 (some .int)) (by decide +kernel)) (Nat.le_of_ble_eq_true rfl) (Nat.le_of_ble_eq_true rfl) (Nat.le_of_ble_eq_true rfl) (Nat.le_of_ble_eq_true rfl) dX4_mixed_44 ?_
    exact W.iret (v := jmax x y) hx hb hr (fun t ht _ => ⟨jmax x y, rfl, by rw [mixV, if_neg (by omega), if_neg (by omega), if_pos e1_2], ht⟩) (fun q hq => absurd hq List.not_mem_nil) dX4_mixed_47
  by_cases e1_3 : k = 3
  · skip
    refine lv_tableIn (off := 47) (tgt := 48) hx hb dX4_mixed_1 (by rw [e1_3]; decide) (by rw [e1_3]; decide) (by rw [e1_3]; rfl) (by decide) ?_
    refine lv_iload_n hx hb dX4_mixed_48 rfl (lv_at hl 0 rfl) ?_
    refine lv_iload_n hx hb dX4_mixed_49 rfl (lv_at hl 1 rfl) ?_
    refine lv_isub hx hb dX4_mixed_50 ?_
    exact W.iret (v := x - y) hx hb hr (fun t ht _ => ⟨x - y, rfl, by rw [mixV, if_neg (by omega), if_neg (by omega), if_neg (by omega), if_pos e1_3], ht⟩) (fun q hq => absurd hq List.not_mem_nil) dX4_mixed_51
  refine lv_tableOut (tgt := 52) hx hb dX4_mixed_1 (Or.inr (by rw [nI_toInt (by omega)]; omega)) (by decide) ?_
  refine lv_iload_n hx hb dX4_mixed_52 rfl (lv_at hl 0 rfl) ?_
  refine lv_iload_n hx hb dX4_mixed_53 rfl (lv_at hl 1 rfl) ?_
  refine lv_imul hx hb dX4_mixed_54 ?_
  refine lv_bipush (v := nI 100) hx hb dX4_mixed_55 (by decide) ?_
  refine lv_idiv hx hb dX4_mixed_57 (by decide) ?_
  exact W.iret (v := (x * y) / (nI 100)) hx hb hr (fun t ht _ => ⟨(x * y) / (nI 100), rfl, by rw [mixV, if_neg (by omega), if_neg (by omega), if_neg (by omega), if_neg (by omega)], ht⟩) (fun q hq => absurd hq List.not_mem_nil) dX4_mixed_58

set_option maxHeartbeats 4000000 in
set_option maxRecDepth 100000 in
theorem conX4_most (l : Launch) (D : va_G) (T : Nat → ClassId) (a : Nat) (x : Int32) (lo t : Nat) (hxm : jmax (nI 0) x = nI lo) (hlo : lo < 201) (hlt : lo ≤ t) (ht9 : t ≤ 1000) : Met l yX4_most wsX4_most ({ frames := 1, cells := 0, slots := 0, locals := 14 }) (cP D T [.ref a, .int x, .int (nI t)] (fun H => pAt D H a (eN (T 1) 201 zr0))) (vp_Si (fun r => r = nI 0)) 0 0 (fun _ => False) := by
  refine Met.ofW (cc := cX4_most) (maxL := 5) (ret := (some .int)) (by decide) rfl ?_
  intro p e s m args below meth c s₁ B hml hv9
  obtain ⟨rfl, hK, ha⟩ := hv9
  have hx := B.exec
  have hb := B.bytes
  have hr := B.returns
  have hts := atoms_spec (ws := wsX4_most) B.pre
  have hown : s.vm.findClass RX4 = some m.cls := findClass_of_methodNamed B.named
  have hlocks := B.notSynchronized
  have hl := lv_entry ([.ref a, .int x, .int (nI t)]) (n := 5) (Nat.le_of_ble_eq_true rfl)
  rw [lg_entry_eq]
  generalize (lg_sl ([.ref a, .int x, .int (nI t)]) ++ List.replicate (5 - (lg_sl ([.ref a, .int x, .int (nI t)])).length) Slot.unset).toArray = ls at hl ⊢
  have hl : lv_has ls 5 [(0, .ref a), (1, .int x), (2, .int (nI t))] := hl
  refine lv_aload_n hx hb dX4_most_0 rfl (lv_at hl 0 rfl) ?_
  refine lv_iconst (v := nI 0) hx hb dX4_most_1 (by decide) ?_
  refine lv_iload_n hx hb dX4_most_2 rfl (lv_at hl 1 rfl) ?_
  refine va_mmax hx hb (hml.trans hl.1.symm) hown (hts (.methodLink RX4 35 Lib.Math.max.name) (by decide +kernel)) (hts (.static Lib.Math.max.name) (by decide +kernel)) (hts (.initialized "java/lang/Math") (by decide +kernel)) (hts (.code Lib.Math.max.name Lib.Math.max.code 2 (some .int)) (by decide +kernel)) (Nat.le_of_ble_eq_true rfl) (Nat.le_of_ble_eq_true rfl) (Nat.le_of_ble_eq_true rfl) (Nat.le_of_ble_eq_true rfl) dX4_most_3 ?_
  refine W.eq (g2 := F0 m 6 ls [.int (jmax (nI 0) x), .ref a]) rfl ?_
  rw [hxm]
  refine q_iald hx hb hK ha lo (rfl) (by omega) (by decide) dX4_most_6 ?_
  refine W.eq (g2 := F0 m 7 ls [.int (nI 0)]) rfl ?_
  refine lv_istore_n (lv' := [(3, .int (nI 0)), (0, .ref a), (1, .int x), (2, .int (nI t))]) hx hb dX4_most_7 rfl hl (by decide) rfl (fun ls hl => ?_)
  refine lv_iconst (v := nI 0) hx hb dX4_most_8 (by decide) ?_
  refine lv_iload_n hx hb dX4_most_9 rfl (lv_at hl 2 rfl) ?_
  refine va_mmax hx hb (hml.trans hl.1.symm) hown (hts (.methodLink RX4 35 Lib.Math.max.name) (by decide +kernel)) (hts (.static Lib.Math.max.name) (by decide +kernel)) (hts (.initialized "java/lang/Math") (by decide +kernel)) (hts (.code Lib.Math.max.name Lib.Math.max.code 2 (some .int)) (by decide +kernel)) (Nat.le_of_ble_eq_true rfl) (Nat.le_of_ble_eq_true rfl) (Nat.le_of_ble_eq_true rfl) (Nat.le_of_ble_eq_true rfl) dX4_most_10 ?_
  refine W.eq (g2 := F0 m 13 ls [.int (jmax (nI 0) x)]) rfl ?_
  rw [hxm]
  refine lv_istore (lv' := [(4, .int (nI lo)), (3, .int (nI 0)), (0, .ref a), (1, .int x), (2, .int (nI t))]) hx hb dX4_most_13 hl (by decide) rfl (fun ls hl => ?_)
  refine q_for (fun (i : Nat) (H : Heap) (locs : List Loc) (ls : Array Slot) => H = s.heap ∧ locs = [] ∧ lv_has ls 5 [(4, .int (nI i)), (3, .int (nI 0)), (0, .ref a), (1, .int x), (2, .int (nI t))]) (N := (min (t + 1) 201)) lo (by omega) ?_ ?_ ?_
  · skip
    exact ⟨rfl, rfl, lv_sub hl [0, 1, 2, 3, 4] rfl⟩
  · skip
    intro i H locs ls hi9 hin9 hnext
    obtain ⟨rfl, rfl, hl⟩ := hin9
    refine lv_iload hx hb dX4_most_15 (lv_at hl 0 rfl) ?_
    refine lv_iload_n hx hb dX4_most_17 rfl (lv_at hl 4 rfl) ?_
    refine lv_icmp_gt (tgt := 44) hx hb dX4_most_18 (by decide) (fun c18 => ?_) (fun c18 => ?_)
    · skip
      have c18 : t < i := (nc_lt (a := t) (b := i) (by omega) (by omega)).mp c18
      omega
    · skip
      have c18 : ¬ (t < i) := fun q9 => c18 ((nc_lt (a := t) (b := i) (by omega) (by omega)).mpr q9)
      refine lv_iload hx hb dX4_most_21 (lv_at hl 0 rfl) ?_
      refine lv_sipush (v := nI 201) hx hb dX4_most_23 (by decide) ?_
      refine lv_icmp_ge (tgt := 44) hx hb dX4_most_26 (by decide) (fun c26 => ?_) (fun c26 => ?_)
      · skip
        have c26 : 201 ≤ i := (nc_le (a := 201) (b := i) (by omega) (by omega)).mp c26
        omega
      · skip
        have c26 : ¬ (201 ≤ i) := fun q9 => c26 ((nc_le (a := 201) (b := i) (by omega) (by omega)).mpr q9)
        refine lv_iload_n hx hb dX4_most_29 rfl (lv_at hl 1 rfl) ?_
        refine lv_aload_n hx hb dX4_most_30 rfl (lv_at hl 2 rfl) ?_
        refine lv_iload hx hb dX4_most_31 (lv_at hl 0 rfl) ?_
        refine q_iald hx hb hK ha i (rfl) (by omega) (by decide) dX4_most_33 ?_
        refine W.eq (g2 := F0 m 34 ls [.int (nI 0), .int (nI 0)]) rfl ?_
        refine va_mmax hx hb (hml.trans hl.1.symm) hown (hts (.methodLink RX4 35 Lib.Math.max.name) (by decide +kernel)) (hts (.static Lib.Math.max.name) (by decide +kernel)) (hts (.initialized "java/lang/Math") (by decide +kernel)) (hts (.code Lib.Math.max.name Lib.Math.max.code 2 (some .int)) (by decide +kernel)) (Nat.le_of_ble_eq_true rfl) (Nat.le_of_ble_eq_true rfl) (Nat.le_of_ble_eq_true rfl) (Nat.le_of_ble_eq_true rfl) dX4_most_34 ?_
        refine W.eq (g2 := F0 m 37 ls [.int (jmax (nI 0) (nI 0))]) rfl ?_
        rw [jmax_nat (a := 0) (b := 0) (by omega) (by omega)]
        refine lv_istore_n (lv' := [(3, .int (nI 0)), (4, .int (nI i)), (0, .ref a), (1, .int x), (2, .int (nI t))]) hx hb dX4_most_37 rfl hl (by decide) rfl (fun ls hl => ?_)
        refine lv_iinc (v := nI (i + 1)) (lv' := [(4, .int (nI (i + 1))), (3, .int (nI 0)), (0, .ref a), (1, .int x), (2, .int (nI t))]) hx hb dX4_most_38 hl (k := 1) rfl (inc_1 _) (by decide) rfl (fun ls hl => ?_)
        refine lv_goto (tgt := 15) hx hb dX4_most_41 (by decide) ?_
        exact hnext _ _ _ ⟨rfl, rfl, lv_sub hl [0, 1, 2, 3, 4] rfl⟩
  · skip
    intro H locs ls hin9
    obtain ⟨rfl, rfl, hl⟩ := hin9
    refine lv_iload hx hb dX4_most_15 (lv_at hl 0 rfl) ?_
    refine lv_iload_n hx hb dX4_most_17 rfl (lv_at hl 4 rfl) ?_
    refine lv_icmp_gt (tgt := 44) hx hb dX4_most_18 (by decide) (fun c18 => ?_) (fun c18 => ?_)
    · skip
      have c18 : t < (min (t + 1) 201) := (nc_lt (a := t) (b := (min (t + 1) 201)) (by omega) (by omega)).mp c18
      refine lv_iload_n hx hb dX4_most_44 rfl (lv_at hl 1 rfl) ?_
      exact W.iret (v := nI 0) hx hb hr (fun t ht _ => ⟨nI 0, rfl, by rfl, ht⟩) (fun q hq => absurd hq List.not_mem_nil) dX4_most_45
    · skip
      have c18 : ¬ (t < (min (t + 1) 201)) := fun q9 => c18 ((nc_lt (a := t) (b := (min (t + 1) 201)) (by omega) (by omega)).mpr q9)
      refine lv_iload hx hb dX4_most_21 (lv_at hl 0 rfl) ?_
      refine lv_sipush (v := nI 201) hx hb dX4_most_23 (by decide) ?_
      refine lv_icmp_ge (tgt := 44) hx hb dX4_most_26 (by decide) (fun c26 => ?_) (fun c26 => ?_)
      · skip
        have c26 : 201 ≤ (min (t + 1) 201) := (nc_le (a := 201) (b := (min (t + 1) 201)) (by omega) (by omega)).mp c26
        refine lv_iload_n hx hb dX4_most_44 rfl (lv_at hl 1 rfl) ?_
        exact W.iret (v := nI 0) hx hb hr (fun t ht _ => ⟨nI 0, rfl, by rfl, ht⟩) (fun q hq => absurd hq List.not_mem_nil) dX4_most_45
      · skip
        have c26 : ¬ (201 ≤ (min (t + 1) 201)) := fun q9 => c26 ((nc_le (a := 201) (b := (min (t + 1) 201)) (by omega) (by omega)).mpr q9)
        omega

set_option maxHeartbeats 4000000 in
set_option maxRecDepth 100000 in
theorem conX4_sumTo (l : Launch) (D : va_G) (T : Nat → ClassId) (a g : Nat) (hg : g < 201) : Met l yX4_sumTo wsX4_sumTo ({ frames := 2, cells := 0, slots := 0, locals := 34 }) (cP D T [.ref a, .int (nI g)] (fun H => pAt D H a (eN (T 1) 201 zr0))) (vp_Si (fun r => r = nI 0)) 0 0 (fun _ => False) := by
  refine Met.ofW (cc := cX4_sumTo) (maxL := 4) (ret := (some .int)) (by decide) rfl ?_
  intro p e s m args below meth c s₁ B hml hv9
  obtain ⟨rfl, hK, ha⟩ := hv9
  have hx := B.exec
  have hb := B.bytes
  have hr := B.returns
  have hts := atoms_spec (ws := wsX4_sumTo) B.pre
  have hown : s.vm.findClass RX4 = some m.cls := findClass_of_methodNamed B.named
  have hlocks := B.notSynchronized
  have hl := lv_entry ([.ref a, .int (nI g)]) (n := 4) (Nat.le_of_ble_eq_true rfl)
  rw [lg_entry_eq]
  generalize (lg_sl ([.ref a, .int (nI g)]) ++ List.replicate (4 - (lg_sl ([.ref a, .int (nI g)])).length) Slot.unset).toArray = ls at hl ⊢
  have hl : lv_has ls 4 [(0, .ref a), (1, .int (nI g))] := hl
  refine lv_iconst (v := nI 0) hx hb dX4_sumTo_0 (by decide) ?_
  refine lv_istore_n (lv' := [(2, .int (nI 0)), (0, .ref a), (1, .int (nI g))]) hx hb dX4_sumTo_1 rfl hl (by decide) rfl (fun ls hl => ?_)
  refine lv_iconst (v := nI 1) hx hb dX4_sumTo_2 (by decide) ?_
  refine lv_istore_n (lv' := [(3, .int (nI 1)), (2, .int (nI 0)), (0, .ref a), (1, .int (nI g))]) hx hb dX4_sumTo_3 rfl hl (by decide) rfl (fun ls hl => ?_)
  refine q_for (fun (i : Nat) (H : Heap) (locs : List Loc) (ls : Array Slot) => H = s.heap ∧ locs = [] ∧ lv_has ls 4 [(3, .int (nI (2 * i + 1))), (2, .int (nI 0)), (0, .ref a), (1, .int (nI g))]) (N := ((g + 1) / 2)) 0 (by omega) ?_ ?_ ?_
  · skip
    exact ⟨rfl, rfl, lv_sub hl [0, 1, 2, 3] rfl⟩
  · skip
    intro i H locs ls hi9 hin9 hnext
    obtain ⟨rfl, rfl, hl⟩ := hin9
    refine lv_iload_n hx hb dX4_sumTo_4 rfl (lv_at hl 0 rfl) ?_
    refine lv_iload_n hx hb dX4_sumTo_5 rfl (lv_at hl 3 rfl) ?_
    refine lv_icmp_gt (tgt := 21) hx hb dX4_sumTo_6 (by decide) (fun c6 => ?_) (fun c6 => ?_)
    · skip
      have c6 : g < 2 * i + 1 := (nc_lt (a := g) (b := 2 * i + 1) (by omega) (by omega)).mp c6
      omega
    · skip
      have c6 : ¬ (g < 2 * i + 1) := fun q9 => c6 ((nc_lt (a := g) (b := 2 * i + 1) (by omega) (by omega)).mpr q9)
      refine lv_iload_n hx hb dX4_sumTo_9 rfl (lv_at hl 1 rfl) ?_
      refine lv_aload_n hx hb dX4_sumTo_10 rfl (lv_at hl 2 rfl) ?_
      refine lv_iload_n hx hb dX4_sumTo_11 rfl (lv_at hl 0 rfl) ?_
      refine q_iald hx hb hK ha (2 * i + 1) (rfl) (by omega) (by decide) dX4_sumTo_12 ?_
      refine W.eq (g2 := F0 m 13 ls [.int (nI 0), .int (nI 0)]) rfl ?_
      refine lv_iadd hx hb dX4_sumTo_13 ?_
      rw [nI_add]
      refine lv_istore_n (lv' := [(2, .int (nI 0)), (3, .int (nI (2 * i + 1))), (0, .ref a), (1, .int (nI g))]) hx hb dX4_sumTo_14 rfl hl (by decide) rfl (fun ls hl => ?_)
      refine lv_iinc (v := nI ((2 * i + 1) + 2)) (lv' := [(3, .int (nI ((2 * i + 1) + 2))), (2, .int (nI 0)), (0, .ref a), (1, .int (nI g))]) hx hb dX4_sumTo_15 hl (k := 1) rfl (inc_2 _) (by decide) rfl (fun ls hl => ?_)
      refine lv_goto (tgt := 4) hx hb dX4_sumTo_18 (by decide) ?_
      have e1 : nI ((2 * i + 1) + 2) = nI (2 * (i + 1) + 1) := by (first | rfl | (congr 1; omega))
      exact hnext _ _ _ ⟨rfl, rfl, lv_sub (lv_ex hl 0 rfl (congrArg Value.int e1)) [0, 1, 2, 3] rfl⟩
  · skip
    intro H locs ls hin9
    obtain ⟨rfl, rfl, hl⟩ := hin9
    refine lv_iload_n hx hb dX4_sumTo_4 rfl (lv_at hl 0 rfl) ?_
    refine lv_iload_n hx hb dX4_sumTo_5 rfl (lv_at hl 3 rfl) ?_
    refine lv_icmp_gt (tgt := 21) hx hb dX4_sumTo_6 (by decide) (fun c6 => ?_) (fun c6 => ?_)
    · skip
      have c6 : g < 2 * ((g + 1) / 2) + 1 := (nc_lt (a := g) (b := 2 * ((g + 1) / 2) + 1) (by omega) (by omega)).mp c6
      refine lv_iload_n hx hb dX4_sumTo_21 rfl (lv_at hl 1 rfl) ?_
      refine vp_callSi (va_runS (As := [.int (nI 0)]) (rest := []) ⟨hx, hb, hml, hown, hts⟩ (conX4_kept l D T (nI 0)) (va_cwS 1 hts gX4_sumTo_X4_kept rfl rfl rfl (by decide +kernel) ⟨Nat.le_of_ble_eq_true rfl, Nat.le_of_ble_eq_true rfl⟩) (preS hK trivial) rfl rfl hl.1 rfl (lv_room (Nat.le_of_ble_eq_true rfl)) dX4_sumTo_22 ⟨Nat.le_of_ble_eq_true rfl, Nat.le_of_ble_eq_true rfl⟩).run (fun r2 hr2 => ?_)
      rw [hr2]
      rw [keptM_0]
      exact W.iret (v := nI 0) hx hb hr (fun t ht _ => ⟨nI 0, rfl, by rfl, ht⟩) (fun q hq => absurd hq List.not_mem_nil) dX4_sumTo_25
    · skip
      have c6 : ¬ (g < 2 * ((g + 1) / 2) + 1) := fun q9 => c6 ((nc_lt (a := g) (b := 2 * ((g + 1) / 2) + 1) (by omega) (by omega)).mpr q9)
      omega

set_option maxHeartbeats 4000000 in
set_option maxRecDepth 100000 in
theorem conX4_areaOf (l : Launch) (D : va_G) (T : Nat → ClassId) (a x y : Nat) (hxy : x ≤ y) (hy : y ≤ 201) : Met l yX4_areaOf wsX4_areaOf ({ frames := 0, cells := 0, slots := 0, locals := 0 }) (cP D T [.ref a, .int (nI x), .int (nI y)] (fun H => pAt D H a (eN (T 1) 201 zr0))) (vp_Si (fun r => r = nI 0)) 0 0 (fun _ => False) := by
  refine Met.ofW (cc := cX4_areaOf) (maxL := 5) (ret := (some .int)) (by decide) rfl ?_
  intro p e s m args below meth c s₁ B hml hv9
  obtain ⟨rfl, hK, ha⟩ := hv9
  have hx := B.exec
  have hb := B.bytes
  have hr := B.returns
  have hts := atoms_spec (ws := wsX4_areaOf) B.pre
  have hown : s.vm.findClass RX4 = some m.cls := findClass_of_methodNamed B.named
  have hlocks := B.notSynchronized
  have hl := lv_entry ([.ref a, .int (nI x), .int (nI y)]) (n := 5) (Nat.le_of_ble_eq_true rfl)
  rw [lg_entry_eq]
  generalize (lg_sl ([.ref a, .int (nI x), .int (nI y)]) ++ List.replicate (5 - (lg_sl ([.ref a, .int (nI x), .int (nI y)])).length) Slot.unset).toArray = ls at hl ⊢
  have hl : lv_has ls 5 [(0, .ref a), (1, .int (nI x)), (2, .int (nI y))] := hl
  refine lv_iconst (v := nI 0) hx hb dX4_areaOf_0 (by decide) ?_
  refine lv_istore_n (lv' := [(3, .int (nI 0)), (0, .ref a), (1, .int (nI x)), (2, .int (nI y))]) hx hb dX4_areaOf_1 rfl hl (by decide) rfl (fun ls hl => ?_)
  refine lv_iload_n hx hb dX4_areaOf_2 rfl (lv_at hl 2 rfl) ?_
  refine lv_istore (lv' := [(4, .int (nI x)), (3, .int (nI 0)), (0, .ref a), (1, .int (nI x)), (2, .int (nI y))]) hx hb dX4_areaOf_3 hl (by decide) rfl (fun ls hl => ?_)
  refine q_for (fun (i : Nat) (H : Heap) (locs : List Loc) (ls : Array Slot) => H = s.heap ∧ locs = [] ∧ lv_has ls 5 [(4, .int (nI i)), (3, .int (nI 0)), (0, .ref a), (1, .int (nI x)), (2, .int (nI y))]) (N := y) x (by omega) ?_ ?_ ?_
  · skip
    exact ⟨rfl, rfl, lv_sub hl [0, 1, 2, 3, 4] rfl⟩
  · skip
    intro i H locs ls hi9 hin9 hnext
    obtain ⟨rfl, rfl, hl⟩ := hin9
    refine lv_iload hx hb dX4_areaOf_5 (lv_at hl 0 rfl) ?_
    refine lv_iload_n hx hb dX4_areaOf_7 rfl (lv_at hl 4 rfl) ?_
    refine lv_icmp_ge (tgt := 36) hx hb dX4_areaOf_8 (by decide) (fun c8 => ?_) (fun c8 => ?_)
    · skip
      have c8 : y ≤ i := (nc_le (a := y) (b := i) (by omega) (by omega)).mp c8
      omega
    · skip
      have c8 : ¬ (y ≤ i) := fun q9 => c8 ((nc_le (a := y) (b := i) (by omega) (by omega)).mpr q9)
      refine lv_iload_n hx hb dX4_areaOf_11 rfl (lv_at hl 1 rfl) ?_
      refine lv_iload hx hb dX4_areaOf_12 (lv_at hl 0 rfl) ?_
      refine lv_iconst (v := nI 2) hx hb dX4_areaOf_14 (by decide) ?_
      refine lv_irem hx hb dX4_areaOf_15 (by decide) ?_
      rw [pk_rem (a := i) (d := 2) (by omega) (by omega) (by omega)]
      refine lv_iconst (v := nI 1) hx hb dX4_areaOf_16 (by decide) ?_
      refine lv_icmp_ne (tgt := 27) hx hb dX4_areaOf_17 (by decide) (fun c17 => ?_) (fun c17 => ?_)
      · skip
        have c17 : ¬ (i % 2 = 1) := fun q9 => c17 ((nc_eq (a := i % 2) (b := 1) (by omega) (by omega)).mpr q9)
        refine lv_iconst (v := nI 0) hx hb dX4_areaOf_27 (by decide) ?_
        refine lv_iadd hx hb dX4_areaOf_28 ?_
        rw [nI_add]
        refine lv_istore_n (lv' := [(3, .int (nI 0)), (4, .int (nI i)), (0, .ref a), (1, .int (nI x)), (2, .int (nI y))]) hx hb dX4_areaOf_29 rfl hl (by decide) rfl (fun ls hl => ?_)
        refine lv_iinc (v := nI (i + 1)) (lv' := [(4, .int (nI (i + 1))), (3, .int (nI 0)), (0, .ref a), (1, .int (nI x)), (2, .int (nI y))]) hx hb dX4_areaOf_30 hl (k := 1) rfl (inc_1 _) (by decide) rfl (fun ls hl => ?_)
        refine lv_goto (tgt := 5) hx hb dX4_areaOf_33 (by decide) ?_
        exact hnext _ _ _ ⟨rfl, rfl, lv_sub hl [0, 1, 2, 3, 4] rfl⟩
      · skip
        have c17 : i % 2 = 1 := (nc_eq (a := i % 2) (b := 1) (by omega) (by omega)).mp c17
        refine lv_aload_n hx hb dX4_areaOf_20 rfl (lv_at hl 2 rfl) ?_
        refine lv_iload hx hb dX4_areaOf_21 (lv_at hl 0 rfl) ?_
        refine q_iald hx hb hK ha i (rfl) (by omega) (by decide) dX4_areaOf_23 ?_
        refine W.eq (g2 := F0 m 24 ls [.int (nI 0), .int (nI 0)]) rfl ?_
        refine lv_goto (tgt := 28) hx hb dX4_areaOf_24 (by decide) ?_
        refine lv_iadd hx hb dX4_areaOf_28 ?_
        rw [nI_add]
        refine lv_istore_n (lv' := [(3, .int (nI 0)), (4, .int (nI i)), (0, .ref a), (1, .int (nI x)), (2, .int (nI y))]) hx hb dX4_areaOf_29 rfl hl (by decide) rfl (fun ls hl => ?_)
        refine lv_iinc (v := nI (i + 1)) (lv' := [(4, .int (nI (i + 1))), (3, .int (nI 0)), (0, .ref a), (1, .int (nI x)), (2, .int (nI y))]) hx hb dX4_areaOf_30 hl (k := 1) rfl (inc_1 _) (by decide) rfl (fun ls hl => ?_)
        refine lv_goto (tgt := 5) hx hb dX4_areaOf_33 (by decide) ?_
        exact hnext _ _ _ ⟨rfl, rfl, lv_sub hl [0, 1, 2, 3, 4] rfl⟩
  · skip
    intro H locs ls hin9
    obtain ⟨rfl, rfl, hl⟩ := hin9
    refine lv_iload hx hb dX4_areaOf_5 (lv_at hl 0 rfl) ?_
    refine lv_iload_n hx hb dX4_areaOf_7 rfl (lv_at hl 4 rfl) ?_
    refine lv_icmp_ge (tgt := 36) hx hb dX4_areaOf_8 (by decide) (fun c8 => ?_) (fun c8 => ?_)
    · skip
      have c8 : y ≤ y := (nc_le (a := y) (b := y) (by omega) (by omega)).mp c8
      refine lv_iload_n hx hb dX4_areaOf_36 rfl (lv_at hl 1 rfl) ?_
      exact W.iret (v := nI 0) hx hb hr (fun t ht _ => ⟨nI 0, rfl, by rfl, ht⟩) (fun q hq => absurd hq List.not_mem_nil) dX4_areaOf_37
    · skip
      have c8 : ¬ (y ≤ y) := fun q9 => c8 ((nc_le (a := y) (b := y) (by omega) (by omega)).mpr q9)
      omega

set_option maxHeartbeats 4000000 in
set_option maxRecDepth 100000 in
theorem conX4_size (l : Launch) (D : va_G) (T : Nat → ClassId) (a : Nat) : Met l yX4_size wsX4_size ({ frames := 0, cells := 0, slots := 0, locals := 0 }) (cP D T [.ref a] (fun H => pAt D H a (eN (T 1) 0 zr0))) (vp_Si (fun r => r = nI 0)) 0 0 (fun _ => False) := by
  refine Met.ofW (cc := cX4_size) (maxL := 1) (ret := (some .int)) (by decide) rfl ?_
  intro p e s m args below meth c s₁ B hml hv9
  obtain ⟨rfl, hK, ha⟩ := hv9
  have hx := B.exec
  have hb := B.bytes
  have hr := B.returns
  have hts := atoms_spec (ws := wsX4_size) B.pre
  have hown : s.vm.findClass RX4 = some m.cls := findClass_of_methodNamed B.named
  have hlocks := B.notSynchronized
  have hl := lv_entry ([.ref a]) (n := 1) (Nat.le_of_ble_eq_true rfl)
  rw [lg_entry_eq]
  generalize (lg_sl ([.ref a]) ++ List.replicate (1 - (lg_sl ([.ref a])).length) Slot.unset).toArray = ls at hl ⊢
  have hl : lv_has ls 1 [(0, .ref a)] := hl
  refine lv_aload_n hx hb dX4_size_0 rfl (lv_at hl 0 rfl) ?_
  refine q_len hx hb hK 1 rfl ha dX4_size_1 ?_
  refine lv_iconst (v := nI 1) hx hb dX4_size_2 (by decide) ?_
  refine lv_icmp_ne (tgt := 17) hx hb dX4_size_3 (by decide) (fun c3 => ?_) (fun c3 => ?_)
  · skip
    have c3 : ¬ (0 = 1) := fun q9 => c3 ((nc_eq (a := 0) (b := 1) (by omega) (by omega)).mpr q9)
    refine lv_aload_n hx hb dX4_size_17 rfl (lv_at hl 0 rfl) ?_
    refine q_len hx hb hK 1 rfl ha dX4_size_18 ?_
    exact W.iret (v := nI 0) hx hb hr (fun t ht _ => ⟨nI 0, rfl, by rfl, ht⟩) (fun q hq => absurd hq List.not_mem_nil) dX4_size_19
  · skip
    have c3 : 0 = 1 := (nc_eq (a := 0) (b := 1) (by omega) (by omega)).mp c3
    omega
