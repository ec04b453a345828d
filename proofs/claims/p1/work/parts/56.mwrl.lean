/-! THE MODEL'S PRIVATE METHODS ON ITS FRESH WORLD -/
def thkM (n : Int32) (i : Nat) : Int32 := if nI 0 < n then nI 0 else nI i
theorem thkM_z (n : Int32) : thkM n 0 = nI 0 := by unfold thkM; split <;> rfl
theorem thkM_p {n : Int32} {i : Nat} (h : nI 0 < n) : thkM n (i + 1) = thkM n i + nI 0 := by
  unfold thkM
  rw [if_pos h, if_pos h]
  rfl
theorem thkM_n {n : Int32} {i : Nat} (h : ¬ nI 0 < n) : thkM n (i + 1) = thkM n i + nI 1 := by
  unfold thkM
  rw [if_neg h, if_neg h]
  exact (nI_add i 1).symm
theorem thkM_1 : thkM (nI 1) 201 = nI 0 := if_pos (by decide)
theorem thkM_2 : thkM (nI 2) 201 = nI 0 := if_pos (by decide)
def onM (w : Nat) : Int32 := if w = 4 then nI 1 else if w = 5 then nI 100 else nI 0
def fnM (w : Nat) : Int32 := if w = 0 then nI 1 else nI 0
set_option maxHeartbeats 4000000 in
set_option maxRecDepth 100000 in
theorem conX4_thickness (l : Launch) (D : va_G) (T : Nat → ClassId) (m0 : Nat) (th : Int32) (fam : Int32) (g : Nat) (hg : g < 201) : Met l yX4_thickness wsX4_thickness ({ frames := 0, cells := 0, slots := 0, locals := 0 }) (cP D T [.ref m0, .int fam, .int (nI g)] (fun H => MF D T m0 th H)) (vp_Si (fun r => r = nI 0)) 0 0 (fun _ => False) := by
  refine Met.ofW (cc := cX4_thickness) (maxL := 5) (ret := (some .int)) (by decide) rfl ?_
  intro p e s m args below meth c s₁ B hml hv9
  obtain ⟨rfl, hK, hw⟩ := hv9
  have hx := B.exec
  have hb := B.bytes
  have hr := B.returns
  have hts := atoms_spec (ws := wsX4_thickness) B.pre
  have hown : s.vm.findClass RX4 = some m.cls := findClass_of_methodNamed B.named
  have hlocks := B.notSynchronized
  have hin4 : ∀ w ∈ wsX40, w ∈ wsX4_thickness := by decide +kernel
  have hl := lv_entry ([.ref m0, .int fam, .int (nI g)]) (n := 5) (Nat.le_of_ble_eq_true rfl)
  rw [lg_entry_eq]
  generalize (lg_sl ([.ref m0, .int fam, .int (nI g)]) ++ List.replicate (5 - (lg_sl ([.ref m0, .int fam, .int (nI g)])).length) Slot.unset).toArray = ls at hl ⊢
  have hl : lv_has ls 5 [(0, .ref m0), (1, .int fam), (2, .int (nI g))] := hl
  refine lv_iconst (v := nI 0) hx hb dX4_thickness_0 (by decide) ?_
  refine lv_istore_n (lv' := [(3, .int (nI 0)), (0, .ref m0), (1, .int fam), (2, .int (nI g))]) hx hb dX4_thickness_1 rfl hl (by decide) rfl (fun ls hl => ?_)
  refine lv_iconst (v := nI 0) hx hb dX4_thickness_2 (by decide) ?_
  refine lv_istore (lv' := [(4, .int (nI 0)), (3, .int (nI 0)), (0, .ref m0), (1, .int fam), (2, .int (nI g))]) hx hb dX4_thickness_3 hl (by decide) rfl (fun ls hl => ?_)
  refine q_for (fun (i : Nat) (H : Heap) (locs : List Loc) (ls : Array Slot) => H = s.heap ∧ locs = [] ∧ lv_has ls 5 [(4, .int (nI i)), (3, .int (nI 0)), (0, .ref m0), (1, .int fam), (2, .int (nI g))]) (N := 8) 0 (by omega) ?_ ?_ ?_
  · skip
    exact ⟨rfl, rfl, lv_sub hl [0, 1, 2, 3, 4] rfl⟩
  · skip
    intro i H locs ls hi9 hin9 hnext
    obtain ⟨rfl, rfl, hl⟩ := hin9
    refine lv_iload hx hb dX4_thickness_5 (lv_at hl 0 rfl) ?_
    refine lv_bipush (v := nI 8) hx hb dX4_thickness_7 (by decide) ?_
    refine lv_icmp_ge (tgt := 48) hx hb dX4_thickness_9 (by decide) (fun c9 => ?_) (fun c9 => ?_)
    · skip
      have c9 : 8 ≤ i := (nc_le (a := 8) (b := i) (by omega) (by omega)).mp c9
      omega
    · skip
      have c9 : ¬ (8 ≤ i) := fun q9 => c9 ((nc_le (a := 8) (b := i) (by omega) (by omega)).mpr q9)
      refine lv_iload_n hx hb dX4_thickness_12 rfl (lv_at hl 1 rfl) ?_
      refine lv_iload_n hx hb dX4_thickness_13 rfl (lv_at hl 3 rfl) ?_
      refine lv_iload hx hb dX4_thickness_14 (lv_at hl 0 rfl) ?_
      refine lv_ishr hx hb dX4_thickness_16 ?_
      refine lv_iconst (v := nI 1) hx hb dX4_thickness_17 (by decide) ?_
      refine lv_iand hx hb dX4_thickness_18 ?_
      refine lv_iconst (v := nI 1) hx hb dX4_thickness_19 (by decide) ?_
      refine lv_icmp_ne (tgt := 39) hx hb dX4_thickness_20 (by decide) (fun c20 => ?_) (fun c20 => ?_)
      · skip
        refine lv_iconst (v := nI 0) hx hb dX4_thickness_39 (by decide) ?_
        refine lv_iadd hx hb dX4_thickness_40 ?_
        rw [nI_add]
        refine lv_istore_n (lv' := [(3, .int (nI 0)), (4, .int (nI i)), (0, .ref m0), (1, .int fam), (2, .int (nI g))]) hx hb dX4_thickness_41 rfl hl (by decide) rfl (fun ls hl => ?_)
        refine lv_iinc (v := nI (i + 1)) (lv' := [(4, .int (nI (i + 1))), (3, .int (nI 0)), (0, .ref m0), (1, .int fam), (2, .int (nI g))]) hx hb dX4_thickness_42 hl (k := 1) rfl (inc_1 _) (by decide) rfl (fun ls hl => ?_)
        refine lv_goto (tgt := 5) hx hb dX4_thickness_45 (by decide) ?_
        exact hnext _ _ _ ⟨rfl, rfl, lv_sub hl [0, 1, 2, 3, 4] rfl⟩
      · skip
        refine lv_aload_n hx hb dX4_thickness_23 rfl (lv_at hl 2 rfl) ?_
        refine q_get (v := .ref (m0 + 1)) hx hb hts hin4 hown hK hw.o rfl 1 (by decide) (hts (.fieldLink RX4 11 "PuddingstoneLineModel" "sets" "[[Z") (by decide +kernel)) (fun _ h9 => h9) rfl dX4_thickness_24 ?_
        refine lv_iload hx hb dX4_thickness_27 (lv_at hl 0 rfl) ?_
        refine q_aald hx hb hK 4 rfl rfl hw.s i (rfl) (by omega) (by decide) (b := m0 + 2 + i) rfl dX4_thickness_29 ?_
        refine lv_iload_n hx hb dX4_thickness_30 rfl (lv_at hl 4 rfl) ?_
        refine q_zald hx hb hK (hw.f i (by omega)) g (rfl) (by omega) (by decide) dX4_thickness_31 ?_
        refine W.eq (g2 := F0 m 32 ls [.int (nI 0), .int (nI 0)]) rfl ?_
        refine lv_if_eq (tgt := 39) hx hb dX4_thickness_32 (by decide) (fun c32 => ?_) (fun c32 => ?_)
        · skip
          have c32 : 0 = 0 := (nc_eq (a := 0) (b := 0) (by omega) (by omega)).mp c32
          refine lv_iconst (v := nI 0) hx hb dX4_thickness_39 (by decide) ?_
          refine lv_iadd hx hb dX4_thickness_40 ?_
          rw [nI_add]
          refine lv_istore_n (lv' := [(3, .int (nI 0)), (4, .int (nI i)), (0, .ref m0), (1, .int fam), (2, .int (nI g))]) hx hb dX4_thickness_41 rfl hl (by decide) rfl (fun ls hl => ?_)
          refine lv_iinc (v := nI (i + 1)) (lv' := [(4, .int (nI (i + 1))), (3, .int (nI 0)), (0, .ref m0), (1, .int fam), (2, .int (nI g))]) hx hb dX4_thickness_42 hl (k := 1) rfl (inc_1 _) (by decide) rfl (fun ls hl => ?_)
          refine lv_goto (tgt := 5) hx hb dX4_thickness_45 (by decide) ?_
          exact hnext _ _ _ ⟨rfl, rfl, lv_sub hl [0, 1, 2, 3, 4] rfl⟩
        · skip
          have c32 : ¬ (0 = 0) := fun q9 => c32 ((nc_eq (a := 0) (b := 0) (by omega) (by omega)).mpr q9)
          omega
  · skip
    intro H locs ls hin9
    obtain ⟨rfl, rfl, hl⟩ := hin9
    refine lv_iload hx hb dX4_thickness_5 (lv_at hl 0 rfl) ?_
    refine lv_bipush (v := nI 8) hx hb dX4_thickness_7 (by decide) ?_
    refine lv_icmp_ge (tgt := 48) hx hb dX4_thickness_9 (by decide) (fun c9 => ?_) (fun c9 => ?_)
    · skip
      have c9 : 8 ≤ 8 := (nc_le (a := 8) (b := 8) (by omega) (by omega)).mp c9
      refine lv_iload_n hx hb dX4_thickness_48 rfl (lv_at hl 1 rfl) ?_
      exact W.iret (v := nI 0) hx hb hr (fun t ht _ => ⟨nI 0, rfl, by rfl, ht⟩) (fun q hq => absurd hq List.not_mem_nil) dX4_thickness_49
    · skip
      have c9 : ¬ (8 ≤ 8) := fun q9 => c9 ((nc_le (a := 8) (b := 8) (by omega) (by omega)).mpr q9)
      omega

set_option maxHeartbeats 4000000 in
set_option maxRecDepth 100000 in
theorem conX4_areaNow (l : Launch) (D : va_G) (T : Nat → ClassId) (m0 : Nat) (th : Int32) (k j : Nat) (hk : k ≤ 4) (hj : j ≤ 7) : Met l yX4_areaNow wsX4_areaNow ({ frames := 0, cells := 0, slots := 0, locals := 0 }) (cP D T [.ref m0, .int (nI k), .int (nI j)] (fun H => MF D T m0 th H)) (vp_Si (fun r => r = nI 0)) 0 0 (fun _ => False) := by
  refine Met.ofW (cc := cX4_areaNow) (maxL := 5) (ret := (some .int)) (by decide) rfl ?_
  intro p e s m args below meth c s₁ B hml hv9
  obtain ⟨rfl, hK, hw⟩ := hv9
  have hx := B.exec
  have hb := B.bytes
  have hr := B.returns
  have hts := atoms_spec (ws := wsX4_areaNow) B.pre
  have hown : s.vm.findClass RX4 = some m.cls := findClass_of_methodNamed B.named
  have hlocks := B.notSynchronized
  have hin4 : ∀ w ∈ wsX40, w ∈ wsX4_areaNow := by decide +kernel
  have hl := lv_entry ([.ref m0, .int (nI k), .int (nI j)]) (n := 5) (Nat.le_of_ble_eq_true rfl)
  rw [lg_entry_eq]
  generalize (lg_sl ([.ref m0, .int (nI k), .int (nI j)]) ++ List.replicate (5 - (lg_sl ([.ref m0, .int (nI k), .int (nI j)])).length) Slot.unset).toArray = ls at hl ⊢
  have hl : lv_has ls 5 [(0, .ref m0), (1, .int (nI k)), (2, .int (nI j))] := hl
  refine lv_iconst (v := nI 0) hx hb dX4_areaNow_0 (by decide) ?_
  refine lv_istore_n (lv' := [(3, .int (nI 0)), (0, .ref m0), (1, .int (nI k)), (2, .int (nI j))]) hx hb dX4_areaNow_1 rfl hl (by decide) rfl (fun ls hl => ?_)
  refine lv_iconst (v := nI 1) hx hb dX4_areaNow_2 (by decide) ?_
  refine lv_istore (lv' := [(4, .int (nI 1)), (3, .int (nI 0)), (0, .ref m0), (1, .int (nI k)), (2, .int (nI j))]) hx hb dX4_areaNow_3 hl (by decide) rfl (fun ls hl => ?_)
  refine q_for (fun (i : Nat) (H : Heap) (locs : List Loc) (ls : Array Slot) => H = s.heap ∧ locs = [] ∧ lv_has ls 5 [(4, .int (nI (2 * i + 1))), (3, .int (nI 0)), (0, .ref m0), (1, .int (nI k)), (2, .int (nI j))]) (N := 100) 0 (by omega) ?_ ?_ ?_
  · skip
    exact ⟨rfl, rfl, lv_sub hl [0, 1, 2, 3, 4] rfl⟩
  · skip
    intro i H locs ls hi9 hin9 hnext
    obtain ⟨rfl, rfl, hl⟩ := hin9
    refine lv_iload hx hb dX4_areaNow_5 (lv_at hl 0 rfl) ?_
    refine lv_sipush (v := nI 201) hx hb dX4_areaNow_7 (by decide) ?_
    refine lv_icmp_ge (tgt := 47) hx hb dX4_areaNow_10 (by decide) (fun c10 => ?_) (fun c10 => ?_)
    · skip
      have c10 : 201 ≤ 2 * i + 1 := (nc_le (a := 201) (b := 2 * i + 1) (by omega) (by omega)).mp c10
      omega
    · skip
      have c10 : ¬ (201 ≤ 2 * i + 1) := fun q9 => c10 ((nc_le (a := 201) (b := 2 * i + 1) (by omega) (by omega)).mpr q9)
      refine lv_iload_n hx hb dX4_areaNow_13 rfl (lv_at hl 1 rfl) ?_
      refine lv_aload_n hx hb dX4_areaNow_14 rfl (lv_at hl 2 rfl) ?_
      refine q_get (v := .ref (m0 + 1)) hx hb hts hin4 hown hK hw.o rfl 1 (by decide) (hts (.fieldLink RX4 11 "PuddingstoneLineModel" "sets" "[[Z") (by decide +kernel)) (fun _ h9 => h9) rfl dX4_areaNow_15 ?_
      refine lv_iload_n hx hb dX4_areaNow_18 rfl (lv_at hl 4 rfl) ?_
      refine q_aald hx hb hK 4 rfl rfl hw.s j (rfl) (by omega) (by decide) (b := m0 + 2 + j) rfl dX4_areaNow_19 ?_
      refine lv_iload hx hb dX4_areaNow_20 (lv_at hl 0 rfl) ?_
      refine q_zald hx hb hK (hw.f j (by omega)) (2 * i + 1) (rfl) (by omega) (by decide) dX4_areaNow_22 ?_
      refine W.eq (g2 := F0 m 23 ls [.int (nI 0), .int (nI 0)]) rfl ?_
      refine lv_if_eq (tgt := 38) hx hb dX4_areaNow_23 (by decide) (fun c23 => ?_) (fun c23 => ?_)
      · skip
        have c23 : 0 = 0 := (nc_eq (a := 0) (b := 0) (by omega) (by omega)).mp c23
        refine lv_iconst (v := nI 0) hx hb dX4_areaNow_38 (by decide) ?_
        refine lv_iadd hx hb dX4_areaNow_39 ?_
        rw [nI_add]
        refine lv_istore_n (lv' := [(3, .int (nI 0)), (4, .int (nI (2 * i + 1))), (0, .ref m0), (1, .int (nI k)), (2, .int (nI j))]) hx hb dX4_areaNow_40 rfl hl (by decide) rfl (fun ls hl => ?_)
        refine lv_iinc (v := nI ((2 * i + 1) + 2)) (lv' := [(4, .int (nI ((2 * i + 1) + 2))), (3, .int (nI 0)), (0, .ref m0), (1, .int (nI k)), (2, .int (nI j))]) hx hb dX4_areaNow_41 hl (k := 1) rfl (inc_2 _) (by decide) rfl (fun ls hl => ?_)
        refine lv_goto (tgt := 5) hx hb dX4_areaNow_44 (by decide) ?_
        have e1 : nI ((2 * i + 1) + 2) = nI (2 * (i + 1) + 1) := by (first | rfl | (congr 1; omega))
        exact hnext _ _ _ ⟨rfl, rfl, lv_sub (lv_ex hl 0 rfl (congrArg Value.int e1)) [0, 1, 2, 3, 4] rfl⟩
      · skip
        have c23 : ¬ (0 = 0) := fun q9 => c23 ((nc_eq (a := 0) (b := 0) (by omega) (by omega)).mpr q9)
        omega
  · skip
    intro H locs ls hin9
    obtain ⟨rfl, rfl, hl⟩ := hin9
    refine lv_iload hx hb dX4_areaNow_5 (lv_at hl 0 rfl) ?_
    refine lv_sipush (v := nI 201) hx hb dX4_areaNow_7 (by decide) ?_
    refine lv_icmp_ge (tgt := 47) hx hb dX4_areaNow_10 (by decide) (fun c10 => ?_) (fun c10 => ?_)
    · skip
      have c10 : 201 ≤ 201 := (nc_le (a := 201) (b := 201) (by omega) (by omega)).mp c10
      refine lv_iload_n hx hb dX4_areaNow_47 rfl (lv_at hl 1 rfl) ?_
      exact W.iret (v := nI 0) hx hb hr (fun t ht _ => ⟨nI 0, rfl, by rfl, ht⟩) (fun q hq => absurd hq List.not_mem_nil) dX4_areaNow_48
    · skip
      have c10 : ¬ (201 ≤ 201) := fun q9 => c10 ((nc_le (a := 201) (b := 201) (by omega) (by omega)).mpr q9)
      omega

set_option maxHeartbeats 4000000 in
set_option maxRecDepth 100000 in
theorem conX4_thickerNow (l : Launch) (D : va_G) (T : Nat → ClassId) (m0 : Nat) (th : Int32) (fam n : Int32) : Met l yX4_thickerNow wsX4_thickerNow ({ frames := 1, cells := 0, slots := 0, locals := 24 }) (cP D T [.ref m0, .int fam, .int n] (fun H => MF D T m0 th H)) (vp_Si (fun r => r = thkM n 201)) 0 0 (fun _ => False) := by
  refine Met.ofW (cc := cX4_thickerNow) (maxL := 5) (ret := (some .int)) (by decide) rfl ?_
  intro p e s m args below meth c s₁ B hml hv9
  obtain ⟨rfl, hK, hw⟩ := hv9
  have hx := B.exec
  have hb := B.bytes
  have hr := B.returns
  have hts := atoms_spec (ws := wsX4_thickerNow) B.pre
  have hown : s.vm.findClass RX4 = some m.cls := findClass_of_methodNamed B.named
  have hlocks := B.notSynchronized
  have hl := lv_entry ([.ref m0, .int fam, .int n]) (n := 5) (Nat.le_of_ble_eq_true rfl)
  rw [lg_entry_eq]
  generalize (lg_sl ([.ref m0, .int fam, .int n]) ++ List.replicate (5 - (lg_sl ([.ref m0, .int fam, .int n])).length) Slot.unset).toArray = ls at hl ⊢
  have hl : lv_has ls 5 [(0, .ref m0), (1, .int fam), (2, .int n)] := hl
  refine lv_iconst (v := nI 0) hx hb dX4_thickerNow_0 (by decide) ?_
  refine lv_istore_n (lv' := [(3, .int (nI 0)), (0, .ref m0), (1, .int fam), (2, .int n)]) hx hb dX4_thickerNow_1 rfl hl (by decide) rfl (fun ls hl => ?_)
  refine lv_iconst (v := nI 0) hx hb dX4_thickerNow_2 (by decide) ?_
  refine lv_istore (lv' := [(4, .int (nI 0)), (3, .int (nI 0)), (0, .ref m0), (1, .int fam), (2, .int n)]) hx hb dX4_thickerNow_3 hl (by decide) rfl (fun ls hl => ?_)
  refine q_for (fun (i : Nat) (H : Heap) (locs : List Loc) (ls : Array Slot) => H = s.heap ∧ locs = [] ∧ lv_has ls 5 [(4, .int (nI i)), (3, .int (thkM n i)), (0, .ref m0), (1, .int fam), (2, .int n)]) (N := 201) 0 (by omega) ?_ ?_ ?_
  · skip
    have e1 : nI 0 = thkM n 0 := by exact (thkM_z n).symm
    exact ⟨rfl, rfl, lv_sub (lv_ex hl 1 rfl (congrArg Value.int e1)) [0, 1, 2, 3, 4] rfl⟩
  · skip
    intro i H locs ls hi9 hin9 hnext
    obtain ⟨rfl, rfl, hl⟩ := hin9
    refine lv_iload hx hb dX4_thickerNow_5 (lv_at hl 0 rfl) ?_
    refine lv_sipush (v := nI 201) hx hb dX4_thickerNow_7 (by decide) ?_
    refine lv_icmp_ge (tgt := 38) hx hb dX4_thickerNow_10 (by decide) (fun c10 => ?_) (fun c10 => ?_)
    · skip
      have c10 : 201 ≤ i := (nc_le (a := 201) (b := i) (by omega) (by omega)).mp c10
      omega
    · skip
      have c10 : ¬ (201 ≤ i) := fun q9 => c10 ((nc_le (a := 201) (b := i) (by omega) (by omega)).mpr q9)
      refine lv_iload_n hx hb dX4_thickerNow_13 rfl (lv_at hl 1 rfl) ?_
      refine lv_aload_n hx hb dX4_thickerNow_14 rfl (lv_at hl 2 rfl) ?_
      refine lv_iload_n hx hb dX4_thickerNow_15 rfl (lv_at hl 3 rfl) ?_
      refine lv_iload hx hb dX4_thickerNow_16 (lv_at hl 0 rfl) ?_
      refine vp_callSi (va_runV (As := [.int fam, .int (nI i)]) (rest := [.int (thkM n i)]) ⟨hx, hb, hml, hown, hts⟩ (conX4_thickness l D T m0 th fam i (by omega)) (cwV 2 hts gX4_thickerNow_X4_thickness rfl rfl rfl (by decide +kernel) ⟨Nat.le_of_ble_eq_true rfl, Nat.le_of_ble_eq_true rfl⟩) (preV hK hw.o rfl hw) rfl rfl hl.1 rfl (lv_room (Nat.le_of_ble_eq_true rfl)) dX4_thickerNow_18 ⟨Nat.le_of_ble_eq_true rfl, Nat.le_of_ble_eq_true rfl⟩).run (fun r2 hr2 => ?_)
      rw [hr2]
      refine lv_iload_n hx hb dX4_thickerNow_21 rfl (lv_at hl 4 rfl) ?_
      refine lv_icmp_lt (tgt := 29) hx hb dX4_thickerNow_22 (by decide) (fun c22 => ?_) (fun c22 => ?_)
      · skip
        refine lv_iconst (v := nI 0) hx hb dX4_thickerNow_29 (by decide) ?_
        refine lv_iadd hx hb dX4_thickerNow_30 ?_
        refine lv_istore_n (lv' := [(3, .int ((thkM n i) + (nI 0))), (4, .int (nI i)), (0, .ref m0), (1, .int fam), (2, .int n)]) hx hb dX4_thickerNow_31 rfl hl (by decide) rfl (fun ls hl => ?_)
        refine lv_iinc (v := nI (i + 1)) (lv' := [(4, .int (nI (i + 1))), (3, .int ((thkM n i) + (nI 0))), (0, .ref m0), (1, .int fam), (2, .int n)]) hx hb dX4_thickerNow_32 hl (k := 1) rfl (inc_1 _) (by decide) rfl (fun ls hl => ?_)
        refine lv_goto (tgt := 5) hx hb dX4_thickerNow_35 (by decide) ?_
        have e3 : (thkM n i) + (nI 0) = thkM n (i + 1) := by first | exact (thkM_p c22).symm | exact (thkM_n c22).symm
        exact hnext _ _ _ ⟨rfl, rfl, lv_sub (lv_ex hl 1 rfl (congrArg Value.int e3)) [0, 1, 2, 3, 4] rfl⟩
      · skip
        refine lv_iconst (v := nI 1) hx hb dX4_thickerNow_25 (by decide) ?_
        refine lv_goto (tgt := 30) hx hb dX4_thickerNow_26 (by decide) ?_
        refine lv_iadd hx hb dX4_thickerNow_30 ?_
        refine lv_istore_n (lv' := [(3, .int ((thkM n i) + (nI 1))), (4, .int (nI i)), (0, .ref m0), (1, .int fam), (2, .int n)]) hx hb dX4_thickerNow_31 rfl hl (by decide) rfl (fun ls hl => ?_)
        refine lv_iinc (v := nI (i + 1)) (lv' := [(4, .int (nI (i + 1))), (3, .int ((thkM n i) + (nI 1))), (0, .ref m0), (1, .int fam), (2, .int n)]) hx hb dX4_thickerNow_32 hl (k := 1) rfl (inc_1 _) (by decide) rfl (fun ls hl => ?_)
        refine lv_goto (tgt := 5) hx hb dX4_thickerNow_35 (by decide) ?_
        have e4 : (thkM n i) + (nI 1) = thkM n (i + 1) := by first | exact (thkM_p c22).symm | exact (thkM_n c22).symm
        exact hnext _ _ _ ⟨rfl, rfl, lv_sub (lv_ex hl 1 rfl (congrArg Value.int e4)) [0, 1, 2, 3, 4] rfl⟩
  · skip
    intro H locs ls hin9
    obtain ⟨rfl, rfl, hl⟩ := hin9
    refine lv_iload hx hb dX4_thickerNow_5 (lv_at hl 0 rfl) ?_
    refine lv_sipush (v := nI 201) hx hb dX4_thickerNow_7 (by decide) ?_
    refine lv_icmp_ge (tgt := 38) hx hb dX4_thickerNow_10 (by decide) (fun c10 => ?_) (fun c10 => ?_)
    · skip
      have c10 : 201 ≤ 201 := (nc_le (a := 201) (b := 201) (by omega) (by omega)).mp c10
      refine lv_iload_n hx hb dX4_thickerNow_38 rfl (lv_at hl 1 rfl) ?_
      exact W.iret (v := thkM n 201) hx hb hr (fun t ht _ => ⟨thkM n 201, rfl, by rfl, ht⟩) (fun q hq => absurd hq List.not_mem_nil) dX4_thickerNow_39
    · skip
      have c10 : ¬ (201 ≤ 201) := fun q9 => c10 ((nc_le (a := 201) (b := 201) (by omega) (by omega)).mpr q9)
      omega

set_option maxHeartbeats 4000000 in
set_option maxRecDepth 100000 in
theorem conX4_pinsNow (l : Launch) (D : va_G) (T : Nat → ClassId) (m0 : Nat) (th : Int32) (fam : Int32) : Met l yX4_pinsNow wsX4_pinsNow ({ frames := 0, cells := 0, slots := 0, locals := 0 }) (cP D T [.ref m0, .int fam] (fun H => MF D T m0 th H)) (vp_Si (fun r => r = nI 0)) 0 0 (fun _ => False) := by
  refine Met.ofW (cc := cX4_pinsNow) (maxL := 7) (ret := (some .int)) (by decide) rfl ?_
  intro p e s m args below meth c s₁ B hml hv9
  obtain ⟨rfl, hK, hw⟩ := hv9
  have hx := B.exec
  have hb := B.bytes
  have hr := B.returns
  have hts := atoms_spec (ws := wsX4_pinsNow) B.pre
  have hown : s.vm.findClass RX4 = some m.cls := findClass_of_methodNamed B.named
  have hlocks := B.notSynchronized
  have hin4 : ∀ w ∈ wsX40, w ∈ wsX4_pinsNow := by decide +kernel
  have hl := lv_entry ([.ref m0, .int fam]) (n := 7) (Nat.le_of_ble_eq_true rfl)
  rw [lg_entry_eq]
  generalize (lg_sl ([.ref m0, .int fam]) ++ List.replicate (7 - (lg_sl ([.ref m0, .int fam])).length) Slot.unset).toArray = ls at hl ⊢
  have hl : lv_has ls 7 [(0, .ref m0), (1, .int fam)] := hl
  refine lv_iconst (v := nI 0) hx hb dX4_pinsNow_0 (by decide) ?_
  refine lv_istore_n (lv' := [(2, .int (nI 0)), (0, .ref m0), (1, .int fam)]) hx hb dX4_pinsNow_1 rfl hl (by decide) rfl (fun ls hl => ?_)
  refine lv_iconst (v := (-1)) hx hb dX4_pinsNow_2 (by decide) ?_
  refine lv_istore_n (lv' := [(3, .int (-1)), (2, .int (nI 0)), (0, .ref m0), (1, .int fam)]) hx hb dX4_pinsNow_3 rfl hl (by decide) rfl (fun ls hl => ?_)
  refine lv_iconst (v := nI 0) hx hb dX4_pinsNow_4 (by decide) ?_
  refine lv_istore (lv' := [(4, .int (nI 0)), (3, .int (-1)), (2, .int (nI 0)), (0, .ref m0), (1, .int fam)]) hx hb dX4_pinsNow_5 hl (by decide) rfl (fun ls hl => ?_)
  refine q_for (fun (i : Nat) (H : Heap) (locs : List Loc) (ls : Array Slot) => H = s.heap ∧ locs = [] ∧ lv_has ls 7 [(4, .int (nI i)), (3, .int (-1)), (2, .int (nI 0)), (0, .ref m0), (1, .int fam)]) (N := 201) 0 (by omega) ?_ ?_ ?_
  · skip
    exact ⟨rfl, rfl, lv_sub hl [0, 1, 2, 3, 4] rfl⟩
  · skip
    intro i H locs ls hi9 hin9 hnext
    obtain ⟨rfl, rfl, hl⟩ := hin9
    refine lv_iload hx hb dX4_pinsNow_7 (lv_at hl 0 rfl) ?_
    refine lv_sipush (v := nI 201) hx hb dX4_pinsNow_9 (by decide) ?_
    refine lv_icmp_ge (tgt := 110) hx hb dX4_pinsNow_12 (by decide) (fun c12 => ?_) (fun c12 => ?_)
    · skip
      have c12 : 201 ≤ i := (nc_le (a := 201) (b := i) (by omega) (by omega)).mp c12
      omega
    · skip
      have c12 : ¬ (201 ≤ i) := fun q9 => c12 ((nc_le (a := 201) (b := i) (by omega) (by omega)).mpr q9)
      refine lv_iconst (v := nI 0) hx hb dX4_pinsNow_15 (by decide) ?_
      refine lv_istore (lv' := [(5, .int (nI 0)), (4, .int (nI i)), (3, .int (-1)), (2, .int (nI 0)), (0, .ref m0), (1, .int fam)]) hx hb dX4_pinsNow_16 hl (by decide) rfl (fun ls hl => ?_)
      refine q_for (fun (j : Nat) (H : Heap) (locs : List Loc) (ls : Array Slot) => H = s.heap ∧ locs = [] ∧ lv_has ls 7 [(5, .int (nI j)), (4, .int (nI i)), (3, .int (-1)), (2, .int (nI 0)), (0, .ref m0), (1, .int fam)]) (N := 8) 0 (by omega) ?_ ?_ ?_
      · skip
        exact ⟨rfl, rfl, lv_sub hl [0, 1, 2, 3, 4, 5] rfl⟩
      · skip
        intro j H locs ls hi9_j hin9 hnext_j
        obtain ⟨rfl, rfl, hl⟩ := hin9
        refine lv_iload hx hb dX4_pinsNow_18 (lv_at hl 0 rfl) ?_
        refine lv_bipush (v := nI 8) hx hb dX4_pinsNow_20 (by decide) ?_
        refine lv_icmp_ge (tgt := 104) hx hb dX4_pinsNow_22 (by decide) (fun c22 => ?_) (fun c22 => ?_)
        · skip
          have c22 : 8 ≤ j := (nc_le (a := 8) (b := j) (by omega) (by omega)).mp c22
          omega
        · skip
          have c22 : ¬ (8 ≤ j) := fun q9 => c22 ((nc_le (a := 8) (b := j) (by omega) (by omega)).mpr q9)
          refine lv_iload_n hx hb dX4_pinsNow_25 rfl (lv_at hl 5 rfl) ?_
          refine lv_iload hx hb dX4_pinsNow_26 (lv_at hl 0 rfl) ?_
          refine lv_ishr hx hb dX4_pinsNow_28 ?_
          refine lv_iconst (v := nI 1) hx hb dX4_pinsNow_29 (by decide) ?_
          refine lv_iand hx hb dX4_pinsNow_30 ?_
          refine lv_iconst (v := nI 1) hx hb dX4_pinsNow_31 (by decide) ?_
          refine lv_icmp_ne (tgt := 69) hx hb dX4_pinsNow_32 (by decide) (fun c32 => ?_) (fun c32 => ?_)
          · skip
            refine lv_iconst (v := nI 0) hx hb dX4_pinsNow_69 (by decide) ?_
            refine lv_istore (lv' := [(6, .int (nI 0)), (5, .int (nI j)), (4, .int (nI i)), (3, .int (-1)), (2, .int (nI 0)), (0, .ref m0), (1, .int fam)]) hx hb dX4_pinsNow_70 hl (by decide) rfl (fun ls hl => ?_)
            refine lv_iload hx hb dX4_pinsNow_72 (lv_at hl 0 rfl) ?_
            refine lv_if_eq (tgt := 98) hx hb dX4_pinsNow_74 (by decide) (fun c74 => ?_) (fun c74 => ?_)
            · skip
              have c74 : 0 = 0 := (nc_eq (a := 0) (b := 0) (by omega) (by omega)).mp c74
              refine lv_iinc (v := nI (j + 1)) (lv' := [(5, .int (nI (j + 1))), (6, .int (nI 0)), (4, .int (nI i)), (3, .int (-1)), (2, .int (nI 0)), (0, .ref m0), (1, .int fam)]) hx hb dX4_pinsNow_98 hl (k := 1) rfl (inc_1 _) (by decide) rfl (fun ls hl => ?_)
              refine lv_goto (tgt := 18) hx hb dX4_pinsNow_101 (by decide) ?_
              exact hnext_j _ _ _ ⟨rfl, rfl, lv_sub hl [0, 2, 3, 4, 5, 6] rfl⟩
            · skip
              have c74 : ¬ (0 = 0) := fun q9 => c74 ((nc_eq (a := 0) (b := 0) (by omega) (by omega)).mpr q9)
              omega
          · skip
            refine lv_aload_n hx hb dX4_pinsNow_35 rfl (lv_at hl 4 rfl) ?_
            refine q_get (v := .ref (m0 + 1)) hx hb hts hin4 hown hK hw.o rfl 1 (by decide) (hts (.fieldLink RX4 11 "PuddingstoneLineModel" "sets" "[[Z") (by decide +kernel)) (fun _ h9 => h9) rfl dX4_pinsNow_36 ?_
            refine lv_iload hx hb dX4_pinsNow_39 (lv_at hl 0 rfl) ?_
            refine q_aald hx hb hK 4 rfl rfl hw.s j (rfl) (by omega) (by decide) (b := m0 + 2 + j) rfl dX4_pinsNow_41 ?_
            refine lv_iload hx hb dX4_pinsNow_42 (lv_at hl 1 rfl) ?_
            refine q_zald hx hb hK (hw.f j (by omega)) i (rfl) (by omega) (by decide) dX4_pinsNow_44 ?_
            refine W.eq (g2 := F0 m 45 ls [.int (nI 0)]) rfl ?_
            refine lv_if_eq (tgt := 69) hx hb dX4_pinsNow_45 (by decide) (fun c45 => ?_) (fun c45 => ?_)
            · skip
              have c45 : 0 = 0 := (nc_eq (a := 0) (b := 0) (by omega) (by omega)).mp c45
              refine lv_iconst (v := nI 0) hx hb dX4_pinsNow_69 (by decide) ?_
              refine lv_istore (lv' := [(6, .int (nI 0)), (5, .int (nI j)), (4, .int (nI i)), (3, .int (-1)), (2, .int (nI 0)), (0, .ref m0), (1, .int fam)]) hx hb dX4_pinsNow_70 hl (by decide) rfl (fun ls hl => ?_)
              refine lv_iload hx hb dX4_pinsNow_72 (lv_at hl 0 rfl) ?_
              refine lv_if_eq (tgt := 98) hx hb dX4_pinsNow_74 (by decide) (fun c74 => ?_) (fun c74 => ?_)
              · skip
                have c74 : 0 = 0 := (nc_eq (a := 0) (b := 0) (by omega) (by omega)).mp c74
                refine lv_iinc (v := nI (j + 1)) (lv' := [(5, .int (nI (j + 1))), (6, .int (nI 0)), (4, .int (nI i)), (3, .int (-1)), (2, .int (nI 0)), (0, .ref m0), (1, .int fam)]) hx hb dX4_pinsNow_98 hl (k := 1) rfl (inc_1 _) (by decide) rfl (fun ls hl => ?_)
                refine lv_goto (tgt := 18) hx hb dX4_pinsNow_101 (by decide) ?_
                exact hnext_j _ _ _ ⟨rfl, rfl, lv_sub hl [0, 2, 3, 4, 5, 6] rfl⟩
              · skip
                have c74 : ¬ (0 = 0) := fun q9 => c74 ((nc_eq (a := 0) (b := 0) (by omega) (by omega)).mpr q9)
                omega
            · skip
              have c45 : ¬ (0 = 0) := fun q9 => c45 ((nc_eq (a := 0) (b := 0) (by omega) (by omega)).mpr q9)
              omega
      · skip
        intro H locs ls hin9
        obtain ⟨rfl, rfl, hl⟩ := hin9
        refine lv_iload hx hb dX4_pinsNow_18 (lv_at hl 0 rfl) ?_
        refine lv_bipush (v := nI 8) hx hb dX4_pinsNow_20 (by decide) ?_
        refine lv_icmp_ge (tgt := 104) hx hb dX4_pinsNow_22 (by decide) (fun c22 => ?_) (fun c22 => ?_)
        · skip
          have c22 : 8 ≤ 8 := (nc_le (a := 8) (b := 8) (by omega) (by omega)).mp c22
          refine lv_iinc (v := nI (i + 1)) (lv' := [(4, .int (nI (i + 1))), (5, .int (nI 8)), (3, .int (-1)), (2, .int (nI 0)), (0, .ref m0), (1, .int fam)]) hx hb dX4_pinsNow_104 hl (k := 1) rfl (inc_1 _) (by decide) rfl (fun ls hl => ?_)
          refine lv_goto (tgt := 7) hx hb dX4_pinsNow_107 (by decide) ?_
          exact hnext _ _ _ ⟨rfl, rfl, lv_sub hl [0, 2, 3, 4, 5] rfl⟩
        · skip
          have c22 : ¬ (8 ≤ 8) := fun q9 => c22 ((nc_le (a := 8) (b := 8) (by omega) (by omega)).mpr q9)
          omega
  · skip
    intro H locs ls hin9
    obtain ⟨rfl, rfl, hl⟩ := hin9
    refine lv_iload hx hb dX4_pinsNow_7 (lv_at hl 0 rfl) ?_
    refine lv_sipush (v := nI 201) hx hb dX4_pinsNow_9 (by decide) ?_
    refine lv_icmp_ge (tgt := 110) hx hb dX4_pinsNow_12 (by decide) (fun c12 => ?_) (fun c12 => ?_)
    · skip
      have c12 : 201 ≤ 201 := (nc_le (a := 201) (b := 201) (by omega) (by omega)).mp c12
      refine lv_iload_n hx hb dX4_pinsNow_110 rfl (lv_at hl 2 rfl) ?_
      exact W.iret (v := nI 0) hx hb hr (fun t ht _ => ⟨nI 0, rfl, by rfl, ht⟩) (fun q hq => absurd hq List.not_mem_nil) dX4_pinsNow_111
    · skip
      have c12 : ¬ (201 ≤ 201) := fun q9 => c12 ((nc_le (a := 201) (b := 201) (by omega) (by omega)).mpr q9)
      omega

set_option maxHeartbeats 4000000 in
set_option maxRecDepth 100000 in
theorem conX4_coverNow (l : Launch) (D : va_G) (T : Nat → ClassId) (sz m0 : Nat) (th : Int32) (fam : Int32) (k : Nat) (hk : k ≤ 7) : Met l yX4_coverNow wsX4_coverNow ({ frames := 1, cells := 2, slots := 201, locals := 60 }) (cP D T [.ref m0, .int fam, .int (nI k)] (fun H => H.size = sz ∧ MF D T m0 th H)) (va_Qr (fun (_ : Unit) => True) (fun _ r t => sz ≤ r ∧ pAt D t.heap r (eN (T 1) 0 zr0)) (fun q : Nat => sz ≤ q)) 2 201 (fun q : Nat => sz ≤ q) := by
  refine Met.ofW (cc := cX4_coverNow) (maxL := 11) (ret := (some (.array .int))) (by decide) rfl ?_
  intro p e s m args below meth c s₁ B hml hv9
  obtain ⟨rfl, hK, hsz, hw⟩ := hv9
  have hx := B.exec
  have hb := B.bytes
  have hr := B.returns
  have hts := atoms_spec (ws := wsX4_coverNow) B.pre
  have hown : s.vm.findClass RX4 = some m.cls := findClass_of_methodNamed B.named
  have hlocks := B.notSynchronized
  have hin4 : ∀ w ∈ wsX40, w ∈ wsX4_coverNow := by decide +kernel
  generalize hAe : (fun q : Nat => sz ≤ q) = A
  have hA : ∀ q : Nat, s.heap.size ≤ q → A q := fun q h9 => by subst hAe; show sz ≤ q; omega
  have hS : va_S A s.heap s.heap [] := va_S.rf
  have hl := lv_entry ([.ref m0, .int fam, .int (nI k)]) (n := 11) (Nat.le_of_ble_eq_true rfl)
  rw [lg_entry_eq]
  generalize (lg_sl ([.ref m0, .int fam, .int (nI k)]) ++ List.replicate (11 - (lg_sl ([.ref m0, .int fam, .int (nI k)])).length) Slot.unset).toArray = ls at hl ⊢
  have hl : lv_has ls 11 [(0, .ref m0), (1, .int fam), (2, .int (nI k))] := hl
  refine lv_sipush (v := nI 201) hx hb dX4_coverNow_0 (by decide) ?_
  obtain ⟨b1, hb1⟩ : ∃ z : Nat, z = s.heap.size := ⟨_, rfl⟩
  have lw_b1 : m0 + 16 ≤ b1 := by have h8 := hw.lt; omega
  have ln_b1 : s.heap.size ≤ b1 := by have h8 := hS.1; omega
  refine q_newi hx hb (hts (.arrayClass .int) (by decide +kernel)) hK 201 rfl (by decide) (Nat.le_of_ble_eq_true rfl) (Nat.le_of_ble_eq_true rfl) hS dX4_coverNow_3 (fun H1 hw9 z1 o1 hS => ?_)
  rw [← hb1] at hw9 ⊢
  replace hw := hw.old o1
  have nb1 := hw9
  have sb1 : H1.size = b1 + 1 := by omega
  refine lv_astore_n (lv' := [(3, .ref b1), (0, .ref m0), (1, .int fam), (2, .int (nI k))]) hx hb dX4_coverNow_5 rfl hl (by decide) rfl (fun ls hl => ?_)
  refine lv_iconst (v := nI 0) hx hb dX4_coverNow_6 (by decide) ?_
  refine lv_istore (lv' := [(4, .int (nI 0)), (3, .ref b1), (0, .ref m0), (1, .int fam), (2, .int (nI k))]) hx hb dX4_coverNow_7 hl (by decide) rfl (fun ls hl => ?_)
  refine lv_iconst (v := nI 0) hx hb dX4_coverNow_9 (by decide) ?_
  refine lv_istore (lv' := [(5, .int (nI 0)), (4, .int (nI 0)), (3, .ref b1), (0, .ref m0), (1, .int fam), (2, .int (nI k))]) hx hb dX4_coverNow_10 hl (by decide) rfl (fun ls hl => ?_)
  refine lv_aload_n hx hb dX4_coverNow_12 rfl (lv_at hl 3 rfl) ?_
  refine q_get (v := .ref (m0 + 1)) hx hb hts hin4 hown hK hw.o rfl 1 (by decide) (hts (.fieldLink RX4 11 "PuddingstoneLineModel" "sets" "[[Z") (by decide +kernel)) (fun _ h9 => h9) rfl dX4_coverNow_13 ?_
  refine lv_iload_n hx hb dX4_coverNow_16 rfl (lv_at hl 5 rfl) ?_
  refine q_aald hx hb hK 4 rfl rfl hw.s k (rfl) (by omega) (by decide) (b := m0 + 2 + k) rfl dX4_coverNow_17 ?_
  refine lv_iconst (v := nI 0) hx hb dX4_coverNow_18 (by decide) ?_
  refine lv_iconst (v := nI 1) hx hb dX4_coverNow_19 (by decide) ?_
  refine vp_callSi (va_runS (As := [.ref (m0 + 2 + k), .int (nI 0), .int (nI 1)]) (rest := []) ⟨hx, hb, hml, hown, hts⟩ (conX4_firstN l D T (m0 + 2 + k) (nI 0) (nI 1) 0 (by omega) (by decide)) (va_cwS 3 hts gX4_coverNow_X4_first rfl rfl rfl (by decide +kernel) ⟨Nat.le_of_ble_eq_true rfl, Nat.le_of_ble_eq_true rfl⟩) (preS hK ((hw.f k (by omega)))) rfl rfl hl.1 rfl (lv_room (Nat.le_of_ble_eq_true rfl)) dX4_coverNow_20 ⟨Nat.le_of_ble_eq_true rfl, Nat.le_of_ble_eq_true rfl⟩).run (fun r1 hr1 => ?_)
  rw [hr1]
  refine lv_istore (lv' := [(6, .int (nI 201)), (5, .int (nI 0)), (4, .int (nI 0)), (3, .ref b1), (0, .ref m0), (1, .int fam), (2, .int (nI k))]) hx hb dX4_coverNow_23 hl (by decide) rfl (fun ls hl => ?_)
  refine lv_iload hx hb dX4_coverNow_25 (lv_at hl 0 rfl) ?_
  refine lv_sipush (v := nI 201) hx hb dX4_coverNow_27 (by decide) ?_
  refine lv_icmp_ge (tgt := 162) hx hb dX4_coverNow_30 (by decide) (fun c30 => ?_) (fun c30 => ?_)
  · skip
    have c30 : 201 ≤ 201 := (nc_le (a := 201) (b := 201) (by omega) (by omega)).mp c30
    refine lv_iload hx hb dX4_coverNow_162 (lv_at hl 2 rfl) ?_
    obtain ⟨b2, hb2⟩ : ∃ z : Nat, z = H1.size := ⟨_, rfl⟩
    have lnb1_b2 : b1 < b2 := by have h8 := nb1.lt; omega
    have lw_b2 : m0 + 16 ≤ b2 := by have h8 := hw.lt; omega
    have ln_b2 : s.heap.size ≤ b2 := by have h8 := hS.1; omega
    refine q_newi hx hb (hts (.arrayClass .int) (by decide +kernel)) hK 0 rfl (by decide) (Nat.le_of_ble_eq_true rfl) (Nat.le_of_ble_eq_true rfl) hS dX4_coverNow_164 (fun H1 hw9 z1 o1 hS => ?_)
    rw [← hb2] at hw9 ⊢
    replace nb1 := nb1.old o1
    replace hw := hw.old o1
    have nb2 := hw9
    have sb2 : H1.size = b2 + 1 := by omega
    refine lv_astore (lv' := [(6, .ref b2), (5, .int (nI 0)), (4, .int (nI 0)), (3, .ref b1), (0, .ref m0), (1, .int fam), (2, .int (nI k))]) hx hb dX4_coverNow_166 hl (by decide) rfl (fun ls hl => ?_)
    refine lv_aload_n hx hb dX4_coverNow_168 rfl (lv_at hl 3 rfl) ?_
    refine lv_iconst (v := nI 0) hx hb dX4_coverNow_169 (by decide) ?_
    refine lv_aload hx hb dX4_coverNow_170 (lv_at hl 0 rfl) ?_
    refine lv_iconst (v := nI 0) hx hb dX4_coverNow_172 (by decide) ?_
    refine lv_iload hx hb dX4_coverNow_173 (lv_at hl 2 rfl) ?_
    refine q_copy0 hx hb (by rw [hml]; exact hl.1.symm) hown (hts (.methodLink RX4 142 arraycopyName) (by decide +kernel)) (hts (.native arraycopyName) (by decide +kernel)) (hts (.static arraycopyName) (by decide +kernel)) (hts (.initialized "java/lang/System") (by decide +kernel)) hK nb1 nb2 (by omega) hS (hA _ (by omega)) (hA _ (by omega)) (Nat.le_of_ble_eq_true rfl) (Nat.le_of_ble_eq_true rfl) dX4_coverNow_175 (fun H1 locs1 hw0 hw9 hS => ?_)
    have nb2 := hw9
    refine lv_aload hx hb dX4_coverNow_178 (lv_at hl 0 rfl) ?_
    exact W.aret (v := .ref b2) hx hb hr (Or.inr ⟨_, rfl⟩) (Or.inr ⟨_, rfl⟩) (fun t ht _ => ⟨⟨(), b2, rfl, trivial, by dsimp only; rw [ht]; exact ⟨by omega, nb2⟩⟩, hS.F ht⟩) hS.2.2 dX4_coverNow_180
  · skip
    have c30 : ¬ (201 ≤ 201) := fun q9 => c30 ((nc_le (a := 201) (b := 201) (by omega) (by omega)).mpr q9)
    omega

set_option maxHeartbeats 4000000 in
set_option maxRecDepth 100000 in
theorem conX4_ofNow (l : Launch) (D : va_G) (T : Nat → ClassId) (sz m0 : Nat) (th : Int32) (k w : Nat) (hk : k ≤ 7) (hw9 : w ≤ 5) : Met l yX4_ofNow wsX4_ofNow ({ frames := 2, cells := 1, slots := 201, locals := 45 }) (cP D T [.ref m0, .int (nI k), .int (nI w)] (fun H => H.size = sz ∧ MF D T m0 th H)) (va_Qi (fun (r : Int32) (_ : Unit) => r = onM w) (fun _ t => MF D T m0 th t.heap) (fun q : Nat => sz ≤ q)) 1 201 (fun q : Nat => sz ≤ q) := by
  refine Met.ofW (cc := cX4_ofNow) (maxL := 4) (ret := (some .int)) (by decide) rfl ?_
  intro p e s m args below meth c s₁ B hml hv9
  obtain ⟨rfl, hK, hsz, hw⟩ := hv9
  have hx := B.exec
  have hb := B.bytes
  have hr := B.returns
  have hts := atoms_spec (ws := wsX4_ofNow) B.pre
  have hown : s.vm.findClass RX4 = some m.cls := findClass_of_methodNamed B.named
  have hlocks := B.notSynchronized
  have hin4 : ∀ w ∈ wsX40, w ∈ wsX4_ofNow := by decide +kernel
  generalize hAe : (fun q : Nat => sz ≤ q) = A
  have hA : ∀ q : Nat, s.heap.size ≤ q → A q := fun q h9 => by subst hAe; show sz ≤ q; omega
  have hS : va_S A s.heap s.heap [] := va_S.rf
  have hl := lv_entry ([.ref m0, .int (nI k), .int (nI w)]) (n := 4) (Nat.le_of_ble_eq_true rfl)
  rw [lg_entry_eq]
  generalize (lg_sl ([.ref m0, .int (nI k), .int (nI w)]) ++ List.replicate (4 - (lg_sl ([.ref m0, .int (nI k), .int (nI w)])).length) Slot.unset).toArray = ls at hl ⊢
  have hl : lv_has ls 4 [(0, .ref m0), (1, .int (nI k)), (2, .int (nI w))] := hl
  refine lv_aload_n hx hb dX4_ofNow_0 rfl (lv_at hl 0 rfl) ?_
  refine q_get (v := .ref (m0 + 1)) hx hb hts hin4 hown hK hw.o rfl 1 (by decide) (hts (.fieldLink RX4 11 "PuddingstoneLineModel" "sets" "[[Z") (by decide +kernel)) (fun _ h9 => h9) rfl dX4_ofNow_1 ?_
  refine lv_iload_n hx hb dX4_ofNow_4 rfl (lv_at hl 1 rfl) ?_
  refine q_aald hx hb hK 4 rfl rfl hw.s k (rfl) (by omega) (by decide) (b := m0 + 2 + k) rfl dX4_ofNow_5 ?_
  refine lv_astore_n (lv' := [(3, .ref (m0 + 2 + k)), (0, .ref m0), (1, .int (nI k)), (2, .int (nI w))]) hx hb dX4_ofNow_6 rfl hl (by decide) rfl (fun ls hl => ?_)
  refine lv_iload_n hx hb dX4_ofNow_7 rfl (lv_at hl 3 rfl) ?_
  by_cases e8_0 : w = 0
  · skip
    refine lv_tableIn (off := 36) (tgt := 44) hx hb dX4_ofNow_8 (by rw [e8_0]; decide) (by rw [e8_0]; decide) (by rw [e8_0]; rfl) (by decide) ?_
    refine lv_aload_n hx hb dX4_ofNow_44 rfl (lv_at hl 0 rfl) ?_
    refine vp_callSi (va_runS (As := [.ref (m0 + 2 + k)]) (rest := []) ⟨hx, hb, hml, hown, hts⟩ (conX4_count l D T (m0 + 2 + k) (nI 0)) (va_cwS 1 hts gX4_ofNow_X4_count rfl rfl rfl (by decide +kernel) ⟨Nat.le_of_ble_eq_true rfl, Nat.le_of_ble_eq_true rfl⟩) (preS hK ((hw.f k (by omega)))) rfl rfl hl.1 rfl (lv_room (Nat.le_of_ble_eq_true rfl)) dX4_ofNow_45 ⟨Nat.le_of_ble_eq_true rfl, Nat.le_of_ble_eq_true rfl⟩).run (fun r1 hr1 => ?_)
    rw [hr1]
    rw [cntc_z]
    refine W.widen (k := 1) (n := 201) (by first | omega | decide) (by first | omega | decide) ?_
    exact W.iret (v := nI 0) hx hb hr (fun t ht _ => ⟨⟨nI 0, (), rfl, by first | exact (if_pos (by omega)).symm | exact ((if_neg (by omega)).trans (if_pos (by omega))).symm | exact ((if_neg (by omega)).trans (if_neg (by omega))).symm, by dsimp only; rw [ht]; exact hw⟩, hS.F ht⟩) hS.2.2 dX4_ofNow_48
  by_cases e8_1 : w = 1
  · skip
    refine lv_tableIn (off := 41) (tgt := 49) hx hb dX4_ofNow_8 (by rw [e8_1]; decide) (by rw [e8_1]; decide) (by rw [e8_1]; rfl) (by decide) ?_
    refine lv_aload_n hx hb dX4_ofNow_49 rfl (lv_at hl 0 rfl) ?_
    refine vp_callSi (va_runS (As := [.ref (m0 + 2 + k)]) (rest := []) ⟨hx, hb, hml, hown, hts⟩ (conX4_spansZ l D T (m0 + 2 + k)) (va_cwS 1 hts gX4_ofNow_X4_spans rfl rfl rfl (by decide +kernel) ⟨Nat.le_of_ble_eq_true rfl, Nat.le_of_ble_eq_true rfl⟩) (preS hK ((hw.f k (by omega)))) rfl rfl hl.1 rfl (lv_room (Nat.le_of_ble_eq_true rfl)) dX4_ofNow_50 ⟨Nat.le_of_ble_eq_true rfl, Nat.le_of_ble_eq_true rfl⟩).run (fun r2 hr2 => ?_)
    rw [hr2]
    refine W.widen (k := 1) (n := 201) (by first | omega | decide) (by first | omega | decide) ?_
    exact W.iret (v := nI 0) hx hb hr (fun t ht _ => ⟨⟨nI 0, (), rfl, by first | exact (if_pos (by omega)).symm | exact ((if_neg (by omega)).trans (if_pos (by omega))).symm | exact ((if_neg (by omega)).trans (if_neg (by omega))).symm, by dsimp only; rw [ht]; exact hw⟩, hS.F ht⟩) hS.2.2 dX4_ofNow_53
  by_cases e8_2 : w = 2
  · skip
    refine lv_tableIn (off := 46) (tgt := 54) hx hb dX4_ofNow_8 (by rw [e8_2]; decide) (by rw [e8_2]; decide) (by rw [e8_2]; rfl) (by decide) ?_
    refine lv_aload_n hx hb dX4_ofNow_54 rfl (lv_at hl 0 rfl) ?_
    refine vp_callSi (va_runS (As := [.ref (m0 + 2 + k)]) (rest := []) ⟨hx, hb, hml, hown, hts⟩ (conX4_longOf_ l D T (m0 + 2 + k)) (va_cwS 1 hts gX4_ofNow_X4_longOf_ rfl rfl rfl (by decide +kernel) ⟨Nat.le_of_ble_eq_true rfl, Nat.le_of_ble_eq_true rfl⟩) (preS hK ((hw.f k (by omega)))) rfl rfl hl.1 rfl (lv_room (Nat.le_of_ble_eq_true rfl)) dX4_ofNow_55 ⟨Nat.le_of_ble_eq_true rfl, Nat.le_of_ble_eq_true rfl⟩).run (fun r3 hr3 => ?_)
    rw [hr3]
    refine W.widen (k := 1) (n := 201) (by first | omega | decide) (by first | omega | decide) ?_
    exact W.iret (v := nI 0) hx hb hr (fun t ht _ => ⟨⟨nI 0, (), rfl, by first | exact (if_pos (by omega)).symm | exact ((if_neg (by omega)).trans (if_pos (by omega))).symm | exact ((if_neg (by omega)).trans (if_neg (by omega))).symm, by dsimp only; rw [ht]; exact hw⟩, hS.F ht⟩) hS.2.2 dX4_ofNow_58
  by_cases e8_3 : w = 3
  · skip
    refine lv_tableIn (off := 51) (tgt := 59) hx hb dX4_ofNow_8 (by rw [e8_3]; decide) (by rw [e8_3]; decide) (by rw [e8_3]; rfl) (by decide) ?_
    refine lv_aload_n hx hb dX4_ofNow_59 rfl (lv_at hl 0 rfl) ?_
    refine vp_callSi (va_runS (As := [.ref (m0 + 2 + k)]) (rest := []) ⟨hx, hb, hml, hown, hts⟩ (conX4_alone l D T (m0 + 2 + k)) (va_cwS 1 hts gX4_ofNow_X4_alone rfl rfl rfl (by decide +kernel) ⟨Nat.le_of_ble_eq_true rfl, Nat.le_of_ble_eq_true rfl⟩) (preS hK ((hw.f k (by omega)))) rfl rfl hl.1 rfl (lv_room (Nat.le_of_ble_eq_true rfl)) dX4_ofNow_60 ⟨Nat.le_of_ble_eq_true rfl, Nat.le_of_ble_eq_true rfl⟩).run (fun r4 hr4 => ?_)
    rw [hr4]
    refine W.widen (k := 1) (n := 201) (by first | omega | decide) (by first | omega | decide) ?_
    exact W.iret (v := nI 0) hx hb hr (fun t ht _ => ⟨⟨nI 0, (), rfl, by first | exact (if_pos (by omega)).symm | exact ((if_neg (by omega)).trans (if_pos (by omega))).symm | exact ((if_neg (by omega)).trans (if_neg (by omega))).symm, by dsimp only; rw [ht]; exact hw⟩, hS.F ht⟩) hS.2.2 dX4_ofNow_63
  by_cases e8_4 : w = 4
  · skip
    refine lv_tableIn (off := 56) (tgt := 64) hx hb dX4_ofNow_8 (by rw [e8_4]; decide) (by rw [e8_4]; decide) (by rw [e8_4]; rfl) (by decide) ?_
    refine lv_aload_n hx hb dX4_ofNow_64 rfl (lv_at hl 0 rfl) ?_
    obtain ⟨b1, hb1⟩ : ∃ z : Nat, z = s.heap.size := ⟨_, rfl⟩
    have lw_b1 : m0 + 16 ≤ b1 := by have h8 := hw.lt; omega
    have ln_b1 : s.heap.size ≤ b1 := by have h8 := hS.1; omega
    refine va_callr (va_runS (As := [.ref (m0 + 2 + k)]) (rest := []) ⟨hx, hb, hml, hown, hts⟩ (conX4_others l D T b1 (m0 + 2 + k)) (va_cwS 1 hts gX4_ofNow_X4_others rfl rfl rfl (by decide +kernel) ⟨Nat.le_of_ble_eq_true rfl, Nat.le_of_ble_eq_true rfl⟩) (preS hK ⟨hb1.symm, (hw.f k (by omega))⟩) rfl rfl hl.1 rfl (lv_room (Nat.le_of_ble_eq_true rfl)) dX4_ofNow_65 ⟨Nat.le_of_ble_eq_true rfl, Nat.le_of_ble_eq_true rfl⟩) hS (fun q _ h9 => (hA q (by have h8 : b1 ≤ q := h9; omega))) (fun q h9 => (hA q (by have h8 : b1 ≤ q := h9; omega))) (fun u ra t H1 locs1 ht hvm hw9 hB hz1 hk1 hS => ?_)
    try dsimp only at hB
    rw [ht] at hB
    obtain ⟨a5, rfl⟩ : ∃ z, z = ra := ⟨_, rfl⟩
    obtain ⟨hz_a5, na5⟩ := hB
    replace hw := hw.kept hk1 (fun q h7 h8 (h9 : b1 ≤ q) => by omega)
    refine vp_callSi (va_runS (As := [.ref a5]) (rest := []) ⟨hx, hb, hml, hown, hts⟩ (conX4_spansO l D T a5) (va_cwS 1 hts gX4_ofNow_X4_spans rfl rfl rfl (by decide +kernel) ⟨Nat.le_of_ble_eq_true rfl, Nat.le_of_ble_eq_true rfl⟩) (preS hK na5) rfl rfl hl.1 rfl (lv_room (Nat.le_of_ble_eq_true rfl)) dX4_ofNow_68 ⟨Nat.le_of_ble_eq_true rfl, Nat.le_of_ble_eq_true rfl⟩).run (fun r6 hr6 => ?_)
    rw [hr6]
    exact W.iret (v := nI 1) hx hb hr (fun t ht _ => ⟨⟨nI 1, (), rfl, by first | exact (if_pos (by omega)).symm | exact ((if_neg (by omega)).trans (if_pos (by omega))).symm | exact ((if_neg (by omega)).trans (if_neg (by omega))).symm, by dsimp only; rw [ht]; exact hw⟩, hS.F ht⟩) hS.2.2 dX4_ofNow_71
  refine lv_tableOut (tgt := 72) hx hb dX4_ofNow_8 (Or.inr (by rw [nI_toInt (by omega)]; omega)) (by decide) ?_
  refine lv_aload_n hx hb dX4_ofNow_72 rfl (lv_at hl 0 rfl) ?_
  obtain ⟨b1, hb1⟩ : ∃ z : Nat, z = s.heap.size := ⟨_, rfl⟩
  have lw_b1 : m0 + 16 ≤ b1 := by have h8 := hw.lt; omega
  have ln_b1 : s.heap.size ≤ b1 := by have h8 := hS.1; omega
  refine va_callr (va_runS (As := [.ref (m0 + 2 + k)]) (rest := []) ⟨hx, hb, hml, hown, hts⟩ (conX4_others l D T b1 (m0 + 2 + k)) (va_cwS 1 hts gX4_ofNow_X4_others rfl rfl rfl (by decide +kernel) ⟨Nat.le_of_ble_eq_true rfl, Nat.le_of_ble_eq_true rfl⟩) (preS hK ⟨hb1.symm, (hw.f k (by omega))⟩) rfl rfl hl.1 rfl (lv_room (Nat.le_of_ble_eq_true rfl)) dX4_ofNow_73 ⟨Nat.le_of_ble_eq_true rfl, Nat.le_of_ble_eq_true rfl⟩) hS (fun q _ h9 => (hA q (by have h8 : b1 ≤ q := h9; omega))) (fun q h9 => (hA q (by have h8 : b1 ≤ q := h9; omega))) (fun u ra t H1 locs1 ht hvm hw9 hB hz1 hk1 hS => ?_)
  try dsimp only at hB
  rw [ht] at hB
  obtain ⟨a7, rfl⟩ : ∃ z, z = ra := ⟨_, rfl⟩
  obtain ⟨hz_a7, na7⟩ := hB
  replace hw := hw.kept hk1 (fun q h7 h8 (h9 : b1 ≤ q) => by omega)
  refine vp_callSi (va_runS (As := [.ref a7]) (rest := []) ⟨hx, hb, hml, hown, hts⟩ (conX4_longestO l D T a7) (va_cwS 1 hts gX4_ofNow_X4_longest rfl rfl rfl (by decide +kernel) ⟨Nat.le_of_ble_eq_true rfl, Nat.le_of_ble_eq_true rfl⟩) (preS hK na7) rfl rfl hl.1 rfl (lv_room (Nat.le_of_ble_eq_true rfl)) dX4_ofNow_76 ⟨Nat.le_of_ble_eq_true rfl, Nat.le_of_ble_eq_true rfl⟩).run (fun r8 hr8 => ?_)
  rw [hr8]
  exact W.iret (v := nI 100) hx hb hr (fun t ht _ => ⟨⟨nI 100, (), rfl, by first | exact (if_pos (by omega)).symm | exact ((if_neg (by omega)).trans (if_pos (by omega))).symm | exact ((if_neg (by omega)).trans (if_neg (by omega))).symm, by dsimp only; rw [ht]; exact hw⟩, hS.F ht⟩) hS.2.2 dX4_ofNow_79

set_option maxHeartbeats 4000000 in
set_option maxRecDepth 100000 in
theorem conX4_functionNow (l : Launch) (D : va_G) (T : Nat → ClassId) (sz m0 : Nat) (th : Int32) (k w : Nat) (hk : k ≤ 4) (hw9 : w ≤ 4) : Met l yX4_functionNow wsX4_functionNow ({ frames := 2, cells := 1, slots := 201, locals := 38 }) (cP D T [.ref m0, .int (nI k), .int (nI w)] (fun H => H.size = sz ∧ MF D T m0 th H)) (va_Qi (fun (r : Int32) (_ : Unit) => r = fnM w) (fun _ t => MF D T m0 th t.heap) (fun q : Nat => sz ≤ q)) 1 201 (fun q : Nat => sz ≤ q) := by
  refine Met.ofW (cc := cX4_functionNow) (maxL := 5) (ret := (some .int)) (by decide) rfl ?_
  intro p e s m args below meth c s₁ B hml hv9
  obtain ⟨rfl, hK, hsz, hw⟩ := hv9
  have hx := B.exec
  have hb := B.bytes
  have hr := B.returns
  have hts := atoms_spec (ws := wsX4_functionNow) B.pre
  have hown : s.vm.findClass RX4 = some m.cls := findClass_of_methodNamed B.named
  have hlocks := B.notSynchronized
  have hin4 : ∀ w ∈ wsX40, w ∈ wsX4_functionNow := by decide +kernel
  generalize hAe : (fun q : Nat => sz ≤ q) = A
  have hA : ∀ q : Nat, s.heap.size ≤ q → A q := fun q h9 => by subst hAe; show sz ≤ q; omega
  have hS : va_S A s.heap s.heap [] := va_S.rf
  have hl := lv_entry ([.ref m0, .int (nI k), .int (nI w)]) (n := 5) (Nat.le_of_ble_eq_true rfl)
  rw [lg_entry_eq]
  generalize (lg_sl ([.ref m0, .int (nI k), .int (nI w)]) ++ List.replicate (5 - (lg_sl ([.ref m0, .int (nI k), .int (nI w)])).length) Slot.unset).toArray = ls at hl ⊢
  have hl : lv_has ls 5 [(0, .ref m0), (1, .int (nI k)), (2, .int (nI w))] := hl
  refine lv_aload_n hx hb dX4_functionNow_0 rfl (lv_at hl 0 rfl) ?_
  refine q_get (v := .ref (m0 + 10)) hx hb hts hin4 hown hK hw.o rfl 2 (by decide) (hts (.fieldLink RX4 16 "PuddingstoneLineModel" "values" "[[I") (by decide +kernel)) (fun _ h9 => h9) rfl dX4_functionNow_1 ?_
  refine lv_iload_n hx hb dX4_functionNow_4 rfl (lv_at hl 1 rfl) ?_
  refine q_aald hx hb hK 5 rfl rfl hw.v k (rfl) (by omega) (by decide) (b := m0 + 11 + k) rfl dX4_functionNow_5 ?_
  refine lv_astore_n (lv' := [(3, .ref (m0 + 11 + k)), (0, .ref m0), (1, .int (nI k)), (2, .int (nI w))]) hx hb dX4_functionNow_6 rfl hl (by decide) rfl (fun ls hl => ?_)
  refine lv_iload_n hx hb dX4_functionNow_7 rfl (lv_at hl 3 rfl) ?_
  by_cases e8_0 : w = 0
  · skip
    refine lv_tableIn (off := 32) (tgt := 40) hx hb dX4_functionNow_8 (by rw [e8_0]; decide) (by rw [e8_0]; decide) (by rw [e8_0]; rfl) (by decide) ?_
    refine lv_aload_n hx hb dX4_functionNow_40 rfl (lv_at hl 0 rfl) ?_
    refine vp_callSi (va_runS (As := [.ref (m0 + 11 + k)]) (rest := []) ⟨hx, hb, hml, hown, hts⟩ (conX4_steps l D T (m0 + 11 + k) zr0) (va_cwS 1 hts gX4_functionNow_X4_steps rfl rfl rfl (by decide +kernel) ⟨Nat.le_of_ble_eq_true rfl, Nat.le_of_ble_eq_true rfl⟩) (preS hK ((hw.g k (by omega)))) rfl rfl hl.1 rfl (lv_room (Nat.le_of_ble_eq_true rfl)) dX4_functionNow_41 ⟨Nat.le_of_ble_eq_true rfl, Nat.le_of_ble_eq_true rfl⟩).run (fun r1 hr1 => ?_)
    rw [hr1]
    rw [stpM_z]
    refine W.widen (k := 1) (n := 201) (by first | omega | decide) (by first | omega | decide) ?_
    exact W.iret (v := nI 1) hx hb hr (fun t ht _ => ⟨⟨nI 1, (), rfl, by first | exact (if_pos (by omega)).symm | exact (if_neg (by omega)).symm, by dsimp only; rw [ht]; exact hw⟩, hS.F ht⟩) hS.2.2 dX4_functionNow_44
  by_cases e8_1 : w = 1
  · skip
    refine lv_tableIn (off := 37) (tgt := 45) hx hb dX4_functionNow_8 (by rw [e8_1]; decide) (by rw [e8_1]; decide) (by rw [e8_1]; rfl) (by decide) ?_
    refine lv_aload_n hx hb dX4_functionNow_45 rfl (lv_at hl 0 rfl) ?_
    obtain ⟨b1, hb1⟩ : ∃ z : Nat, z = s.heap.size := ⟨_, rfl⟩
    have lw_b1 : m0 + 16 ≤ b1 := by have h8 := hw.lt; omega
    have ln_b1 : s.heap.size ≤ b1 := by have h8 := hS.1; omega
    refine va_callr (va_runS (As := [.ref (m0 + 11 + k)]) (rest := []) ⟨hx, hb, hml, hown, hts⟩ (conX4_negated l D T b1 (m0 + 11 + k)) (va_cwS 1 hts gX4_functionNow_X4_negated rfl rfl rfl (by decide +kernel) ⟨Nat.le_of_ble_eq_true rfl, Nat.le_of_ble_eq_true rfl⟩) (preS hK ⟨hb1.symm, (hw.g k (by omega))⟩) rfl rfl hl.1 rfl (lv_room (Nat.le_of_ble_eq_true rfl)) dX4_functionNow_46 ⟨Nat.le_of_ble_eq_true rfl, Nat.le_of_ble_eq_true rfl⟩) hS (fun q _ h9 => (hA q (by have h8 : b1 ≤ q := h9; omega))) (fun q h9 => (hA q (by have h8 : b1 ≤ q := h9; omega))) (fun u ra t H1 locs1 ht hvm hw9 hB hz1 hk1 hS => ?_)
    try dsimp only at hB
    rw [ht] at hB
    obtain ⟨a2, rfl⟩ : ∃ z, z = ra := ⟨_, rfl⟩
    obtain ⟨hz_a2, na2⟩ := hB
    replace hw := hw.kept hk1 (fun q h7 h8 (h9 : b1 ≤ q) => by omega)
    refine lv_iconst (v := nI 0) hx hb dX4_functionNow_49 (by decide) ?_
    refine lv_sipush (v := nI 201) hx hb dX4_functionNow_50 (by decide) ?_
    refine vp_callSi (va_runS (As := [.ref a2, .int (nI 0), .int (nI 201)]) (rest := []) ⟨hx, hb, hml, hown, hts⟩ (conX4_most l D T a2 (nI 0) 0 201 (jmax_z0 (by omega)) (by omega) (by omega) (by omega)) (va_cwS 3 hts gX4_functionNow_X4_most rfl rfl rfl (by decide +kernel) ⟨Nat.le_of_ble_eq_true rfl, Nat.le_of_ble_eq_true rfl⟩) (preS hK na2) rfl rfl hl.1 rfl (lv_room (Nat.le_of_ble_eq_true rfl)) dX4_functionNow_53 ⟨Nat.le_of_ble_eq_true rfl, Nat.le_of_ble_eq_true rfl⟩).run (fun r3 hr3 => ?_)
    rw [hr3]
    refine lv_ineg hx hb dX4_functionNow_56 ?_
    exact W.iret (v := -(nI 0)) hx hb hr (fun t ht _ => ⟨⟨-(nI 0), (), rfl, by first | exact (if_pos (by omega)).symm | exact (if_neg (by omega)).symm, by dsimp only; rw [ht]; exact hw⟩, hS.F ht⟩) hS.2.2 dX4_functionNow_57
  by_cases e8_2 : w = 2
  · skip
    refine lv_tableIn (off := 50) (tgt := 58) hx hb dX4_functionNow_8 (by rw [e8_2]; decide) (by rw [e8_2]; decide) (by rw [e8_2]; rfl) (by decide) ?_
    refine lv_aload_n hx hb dX4_functionNow_58 rfl (lv_at hl 0 rfl) ?_
    refine lv_iconst (v := nI 0) hx hb dX4_functionNow_59 (by decide) ?_
    refine lv_sipush (v := nI 201) hx hb dX4_functionNow_60 (by decide) ?_
    refine vp_callSi (va_runS (As := [.ref (m0 + 11 + k), .int (nI 0), .int (nI 201)]) (rest := []) ⟨hx, hb, hml, hown, hts⟩ (conX4_most l D T (m0 + 11 + k) (nI 0) 0 201 (jmax_z0 (by omega)) (by omega) (by omega) (by omega)) (va_cwS 3 hts gX4_functionNow_X4_most rfl rfl rfl (by decide +kernel) ⟨Nat.le_of_ble_eq_true rfl, Nat.le_of_ble_eq_true rfl⟩) (preS hK ((hw.g k (by omega)))) rfl rfl hl.1 rfl (lv_room (Nat.le_of_ble_eq_true rfl)) dX4_functionNow_63 ⟨Nat.le_of_ble_eq_true rfl, Nat.le_of_ble_eq_true rfl⟩).run (fun r4 hr4 => ?_)
    rw [hr4]
    refine W.widen (k := 1) (n := 201) (by first | omega | decide) (by first | omega | decide) ?_
    exact W.iret (v := nI 0) hx hb hr (fun t ht _ => ⟨⟨nI 0, (), rfl, by first | exact (if_pos (by omega)).symm | exact (if_neg (by omega)).symm, by dsimp only; rw [ht]; exact hw⟩, hS.F ht⟩) hS.2.2 dX4_functionNow_66
  by_cases e8_3 : w = 3
  · skip
    refine lv_tableIn (off := 59) (tgt := 67) hx hb dX4_functionNow_8 (by rw [e8_3]; decide) (by rw [e8_3]; decide) (by rw [e8_3]; rfl) (by decide) ?_
    refine lv_iconst (v := nI 0) hx hb dX4_functionNow_67 (by decide) ?_
    refine lv_istore (lv' := [(4, .int (nI 0)), (3, .ref (m0 + 11 + k)), (0, .ref m0), (1, .int (nI k)), (2, .int (nI w))]) hx hb dX4_functionNow_68 hl (by decide) rfl (fun ls hl => ?_)
    refine lv_aload_n hx hb dX4_functionNow_70 rfl (lv_at hl 1 rfl) ?_
    refine lv_iload hx hb dX4_functionNow_71 (lv_at hl 0 rfl) ?_
    refine q_iald hx hb hK (hw.g k (by omega)) 0 (rfl) (by omega) (by decide) dX4_functionNow_73 ?_
    refine W.eq (g2 := F0 m 74 ls [.int (nI 0)]) rfl ?_
    refine lv_aload_n hx hb dX4_functionNow_74 rfl (lv_at hl 1 rfl) ?_
    refine lv_iconst (v := nI 0) hx hb dX4_functionNow_75 (by decide) ?_
    refine lv_sipush (v := nI 201) hx hb dX4_functionNow_76 (by decide) ?_
    refine vp_callSi (va_runS (As := [.ref (m0 + 11 + k), .int (nI 0), .int (nI 201)]) (rest := [.int (nI 0)]) ⟨hx, hb, hml, hown, hts⟩ (conX4_most l D T (m0 + 11 + k) (nI 0) 0 201 (jmax_z0 (by omega)) (by omega) (by omega) (by omega)) (va_cwS 3 hts gX4_functionNow_X4_most rfl rfl rfl (by decide +kernel) ⟨Nat.le_of_ble_eq_true rfl, Nat.le_of_ble_eq_true rfl⟩) (preS hK ((hw.g k (by omega)))) rfl rfl hl.1 rfl (lv_room (Nat.le_of_ble_eq_true rfl)) dX4_functionNow_79 ⟨Nat.le_of_ble_eq_true rfl, Nat.le_of_ble_eq_true rfl⟩).run (fun r5 hr5 => ?_)
    rw [hr5]
    refine lv_icmp_ge (tgt := 91) hx hb dX4_functionNow_82 (by decide) (fun c82 => ?_) (fun c82 => ?_)
    · skip
      have c82 : 0 ≤ 0 := (nc_le (a := 0) (b := 0) (by omega) (by omega)).mp c82
      refine lv_iload hx hb dX4_functionNow_91 (lv_at hl 0 rfl) ?_
      refine W.widen (k := 1) (n := 201) (by first | omega | decide) (by first | omega | decide) ?_
      exact W.iret (v := nI 0) hx hb hr (fun t ht _ => ⟨⟨nI 0, (), rfl, by first | exact (if_pos (by omega)).symm | exact (if_neg (by omega)).symm, by dsimp only; rw [ht]; exact hw⟩, hS.F ht⟩) hS.2.2 dX4_functionNow_93
    · skip
      have c82 : ¬ (0 ≤ 0) := fun q9 => c82 ((nc_le (a := 0) (b := 0) (by omega) (by omega)).mpr q9)
      omega
  refine lv_tableOut (tgt := 94) hx hb dX4_functionNow_8 (Or.inr (by rw [nI_toInt (by omega)]; omega)) (by decide) ?_
  refine lv_aload_n hx hb dX4_functionNow_94 rfl (lv_at hl 0 rfl) ?_
  refine lv_iconst (v := nI 0) hx hb dX4_functionNow_95 (by decide) ?_
  refine lv_sipush (v := nI 201) hx hb dX4_functionNow_96 (by decide) ?_
  refine vp_callSi (va_runS (As := [.ref (m0 + 11 + k), .int (nI 0), .int (nI 201)]) (rest := []) ⟨hx, hb, hml, hown, hts⟩ (conX4_areaOf l D T (m0 + 11 + k) 0 201 (by omega) (by omega)) (va_cwS 3 hts gX4_functionNow_X4_areaOf rfl rfl rfl (by decide +kernel) ⟨Nat.le_of_ble_eq_true rfl, Nat.le_of_ble_eq_true rfl⟩) (preS hK ((hw.g k (by omega)))) rfl rfl hl.1 rfl (lv_room (Nat.le_of_ble_eq_true rfl)) dX4_functionNow_99 ⟨Nat.le_of_ble_eq_true rfl, Nat.le_of_ble_eq_true rfl⟩).run (fun r6 hr6 => ?_)
  rw [hr6]
  refine W.widen (k := 1) (n := 201) (by first | omega | decide) (by first | omega | decide) ?_
  exact W.iret (v := nI 0) hx hb hr (fun t ht _ => ⟨⟨nI 0, (), rfl, by first | exact (if_pos (by omega)).symm | exact (if_neg (by omega)).symm, by dsimp only; rw [ht]; exact hw⟩, hS.F ht⟩) hS.2.2 dX4_functionNow_102

set_option maxHeartbeats 4000000 in
set_option maxRecDepth 100000 in
theorem conX4_isClear (l : Launch) (D : va_G) (T : Nat → ClassId) (sz m0 : Nat) (th : Int32) (k j : Nat) (x : Int32) (hk : k ≤ 7) (hj : j ≤ 7) : Met l yX4_isClear wsX4_isClear ({ frames := 2, cells := 2, slots := 402, locals := 44 }) (cP D T [.ref m0, .int (nI k), .int x, .int (nI j)] (fun H => H.size = sz ∧ MF D T m0 th H)) (va_Qi (fun (r : Int32) (_ : Unit) => r = nI 1) (fun _ t => MF D T m0 th t.heap) (fun q : Nat => sz ≤ q)) 2 402 (fun q : Nat => sz ≤ q) := by
  refine Met.ofW (cc := cX4_isClear) (maxL := 5) (ret := (some .boolean)) (by decide) rfl ?_
  intro p e s m args below meth c s₁ B hml hv9
  obtain ⟨rfl, hK, hsz, hw⟩ := hv9
  have hx := B.exec
  have hb := B.bytes
  have hr := B.returns
  have hts := atoms_spec (ws := wsX4_isClear) B.pre
  have hown : s.vm.findClass RX4 = some m.cls := findClass_of_methodNamed B.named
  have hlocks := B.notSynchronized
  have hin4 : ∀ w ∈ wsX40, w ∈ wsX4_isClear := by decide +kernel
  generalize hAe : (fun q : Nat => sz ≤ q) = A
  have hA : ∀ q : Nat, s.heap.size ≤ q → A q := fun q h9 => by subst hAe; show sz ≤ q; omega
  have hS : va_S A s.heap s.heap [] := va_S.rf
  have hl := lv_entry ([.ref m0, .int (nI k), .int x, .int (nI j)]) (n := 5) (Nat.le_of_ble_eq_true rfl)
  rw [lg_entry_eq]
  generalize (lg_sl ([.ref m0, .int (nI k), .int x, .int (nI j)]) ++ List.replicate (5 - (lg_sl ([.ref m0, .int (nI k), .int x, .int (nI j)])).length) Slot.unset).toArray = ls at hl ⊢
  have hl : lv_has ls 5 [(0, .ref m0), (1, .int (nI k)), (2, .int x), (3, .int (nI j))] := hl
  refine lv_aload_n hx hb dX4_isClear_0 rfl (lv_at hl 0 rfl) ?_
  refine q_get (v := .ref (m0 + 1)) hx hb hts hin4 hown hK hw.o rfl 1 (by decide) (hts (.fieldLink RX4 11 "PuddingstoneLineModel" "sets" "[[Z") (by decide +kernel)) (fun _ h9 => h9) rfl dX4_isClear_1 ?_
  refine lv_iload_n hx hb dX4_isClear_4 rfl (lv_at hl 1 rfl) ?_
  refine q_aald hx hb hK 4 rfl rfl hw.s k (rfl) (by omega) (by decide) (b := m0 + 2 + k) rfl dX4_isClear_5 ?_
  refine lv_iload_n hx hb dX4_isClear_6 rfl (lv_at hl 2 rfl) ?_
  obtain ⟨b1, hb1⟩ : ∃ z : Nat, z = s.heap.size := ⟨_, rfl⟩
  have lw_b1 : m0 + 16 ≤ b1 := by have h8 := hw.lt; omega
  have ln_b1 : s.heap.size ≤ b1 := by have h8 := hS.1; omega
  refine va_callr (va_runS (As := [.ref (m0 + 2 + k), .int x]) (rest := []) ⟨hx, hb, hml, hown, hts⟩ (conX4_moved l D T b1 (m0 + 2 + k) x) (va_cwS 2 hts gX4_isClear_X4_moved rfl rfl rfl (by decide +kernel) ⟨Nat.le_of_ble_eq_true rfl, Nat.le_of_ble_eq_true rfl⟩) (preS hK ⟨hb1.symm, (hw.f k (by omega))⟩) rfl rfl hl.1 rfl (lv_room (Nat.le_of_ble_eq_true rfl)) dX4_isClear_7 ⟨Nat.le_of_ble_eq_true rfl, Nat.le_of_ble_eq_true rfl⟩) hS (fun q _ h9 => (hA q (by have h8 : b1 ≤ q := h9; omega))) (fun q h9 => (hA q (by have h8 : b1 ≤ q := h9; omega))) (fun u ra t H1 locs1 ht hvm hw9 hB hz1 hk1 hS => ?_)
  try dsimp only at hB
  rw [ht] at hB
  obtain ⟨a1, rfl⟩ : ∃ z, z = ra := ⟨_, rfl⟩
  obtain ⟨hz_a1, na1⟩ := hB
  replace hw := hw.kept hk1 (fun q h7 h8 (h9 : b1 ≤ q) => by omega)
  refine lv_astore (lv' := [(4, .ref a1), (0, .ref m0), (1, .int (nI k)), (2, .int x), (3, .int (nI j))]) hx hb dX4_isClear_10 hl (by decide) rfl (fun ls hl => ?_)
  refine lv_aload hx hb dX4_isClear_12 (lv_at hl 0 rfl) ?_
  refine vp_callSi (va_runS (As := [.ref a1]) (rest := []) ⟨hx, hb, hml, hown, hts⟩ (conX4_count l D T a1 (nI 0)) (va_cwS 1 hts gX4_isClear_X4_count rfl rfl rfl (by decide +kernel) ⟨Nat.le_of_ble_eq_true rfl, Nat.le_of_ble_eq_true rfl⟩) (preS hK na1) rfl rfl hl.1 rfl (lv_room (Nat.le_of_ble_eq_true rfl)) dX4_isClear_14 ⟨Nat.le_of_ble_eq_true rfl, Nat.le_of_ble_eq_true rfl⟩).run (fun r2 hr2 => ?_)
  rw [hr2]
  rw [cntc_z]
  refine lv_aload_n hx hb dX4_isClear_17 rfl (lv_at hl 1 rfl) ?_
  refine q_get (v := .ref (m0 + 1)) hx hb hts hin4 hown hK hw.o rfl 1 (by decide) (hts (.fieldLink RX4 11 "PuddingstoneLineModel" "sets" "[[Z") (by decide +kernel)) (fun _ h9 => h9) rfl dX4_isClear_18 ?_
  refine lv_iload_n hx hb dX4_isClear_21 rfl (lv_at hl 2 rfl) ?_
  refine q_aald hx hb hK 4 rfl rfl hw.s k (rfl) (by omega) (by decide) (b := m0 + 2 + k) rfl dX4_isClear_22 ?_
  refine vp_callSi (va_runS (As := [.ref (m0 + 2 + k)]) (rest := [.int (nI 0)]) ⟨hx, hb, hml, hown, hts⟩ (conX4_count l D T (m0 + 2 + k) (nI 0)) (va_cwS 1 hts gX4_isClear_X4_count rfl rfl rfl (by decide +kernel) ⟨Nat.le_of_ble_eq_true rfl, Nat.le_of_ble_eq_true rfl⟩) (preS hK ((hw.f k (by omega)))) rfl rfl hl.1 rfl (lv_room (Nat.le_of_ble_eq_true rfl)) dX4_isClear_23 ⟨Nat.le_of_ble_eq_true rfl, Nat.le_of_ble_eq_true rfl⟩).run (fun r3 hr3 => ?_)
  rw [hr3]
  rw [cntc_z]
  refine lv_icmp_ne (tgt := 50) hx hb dX4_isClear_26 (by decide) (fun c26 => ?_) (fun c26 => ?_)
  · skip
    have c26 : ¬ (0 = 0) := fun q9 => c26 ((nc_eq (a := 0) (b := 0) (by omega) (by omega)).mpr q9)
    omega
  · skip
    have c26 : 0 = 0 := (nc_eq (a := 0) (b := 0) (by omega) (by omega)).mp c26
    refine lv_aload hx hb dX4_isClear_29 (lv_at hl 0 rfl) ?_
    refine lv_aload_n hx hb dX4_isClear_31 rfl (lv_at hl 1 rfl) ?_
    refine q_get (v := .ref (m0 + 1)) hx hb hts hin4 hown hK hw.o rfl 1 (by decide) (hts (.fieldLink RX4 11 "PuddingstoneLineModel" "sets" "[[Z") (by decide +kernel)) (fun _ h9 => h9) rfl dX4_isClear_32 ?_
    refine lv_iload_n hx hb dX4_isClear_35 rfl (lv_at hl 4 rfl) ?_
    refine q_aald hx hb hK 4 rfl rfl hw.s j (rfl) (by omega) (by decide) (b := m0 + 2 + j) rfl dX4_isClear_36 ?_
    obtain ⟨b2, hb2⟩ : ∃ z : Nat, z = H1.size := ⟨_, rfl⟩
    have lna1_b2 : a1 < b2 := by have h8 := na1.lt; omega
    have lw_b2 : m0 + 16 ≤ b2 := by have h8 := hw.lt; omega
    have ln_b2 : s.heap.size ≤ b2 := by have h8 := hS.1; omega
    refine va_callr (va_runS (As := [.ref a1, .ref (m0 + 2 + j)]) (rest := []) ⟨hx, hb, hml, hown, hts⟩ (conX4_both l D T b2 a1 (m0 + 2 + j)) (va_cwS 2 hts gX4_isClear_X4_both rfl rfl rfl (by decide +kernel) ⟨Nat.le_of_ble_eq_true rfl, Nat.le_of_ble_eq_true rfl⟩) (preS hK ⟨hb2.symm, na1, (hw.f j (by omega))⟩) rfl rfl hl.1 rfl (lv_room (Nat.le_of_ble_eq_true rfl)) dX4_isClear_37 ⟨Nat.le_of_ble_eq_true rfl, Nat.le_of_ble_eq_true rfl⟩) hS (fun q _ h9 => (hA q (by have h8 : b2 ≤ q := h9; omega))) (fun q h9 => (hA q (by have h8 : b2 ≤ q := h9; omega))) (fun u ra t H1 locs1 ht hvm hw9 hB hz1 hk1 hS => ?_)
    try dsimp only at hB
    rw [ht] at hB
    obtain ⟨a4, rfl⟩ : ∃ z, z = ra := ⟨_, rfl⟩
    obtain ⟨hz_a4, na4⟩ := hB
    replace na1 := na1.kept (hk1 _ na1.lt (fun (h9 : b2 ≤ _) => by omega))
    replace hw := hw.kept hk1 (fun q h7 h8 (h9 : b2 ≤ q) => by omega)
    refine vp_callSi (va_runS (As := [.ref a4]) (rest := []) ⟨hx, hb, hml, hown, hts⟩ (conX4_count l D T a4 (nI 0)) (va_cwS 1 hts gX4_isClear_X4_count rfl rfl rfl (by decide +kernel) ⟨Nat.le_of_ble_eq_true rfl, Nat.le_of_ble_eq_true rfl⟩) (preS hK na4) rfl rfl hl.1 rfl (lv_room (Nat.le_of_ble_eq_true rfl)) dX4_isClear_40 ⟨Nat.le_of_ble_eq_true rfl, Nat.le_of_ble_eq_true rfl⟩).run (fun r5 hr5 => ?_)
    rw [hr5]
    rw [cntc_z]
    refine lv_if_ne (tgt := 50) hx hb dX4_isClear_43 (by decide) (fun c43 => ?_) (fun c43 => ?_)
    · skip
      have c43 : ¬ (0 = 0) := fun q9 => c43 ((nc_eq (a := 0) (b := 0) (by omega) (by omega)).mpr q9)
      omega
    · skip
      have c43 : 0 = 0 := (nc_eq (a := 0) (b := 0) (by omega) (by omega)).mp c43
      refine lv_iconst (v := nI 1) hx hb dX4_isClear_46 (by decide) ?_
      refine lv_goto (tgt := 51) hx hb dX4_isClear_47 (by decide) ?_
      exact W.zret (v := nI 1) hx hb hr (rfl) (fun t ht _ => ⟨⟨nI 1, (), rfl, by rfl, by dsimp only; rw [ht]; exact hw⟩, hS.F ht⟩) hS.2.2 dX4_isClear_51
