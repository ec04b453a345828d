/-! THE MODEL'S PUBLIC METHODS ON A FRESH OBJECT: what they throw (tw_..) and answer -/
def chC (w : Nat) : Int32 := if w = 0 then nI 1 else nI 0
def chV (x : Int32) : Int32 := if x = 0 then nI 201 else nI 0
theorem chC_v {w : Nat} (hw : w < 2 ^ 31) : cntc (chC w) 201 = chV (nI w) := by
  unfold chC chV
  by_cases h : w = 0
  · subst h
    rw [if_pos rfl, if_pos (show nI 0 = 0 from rfl)]
    exact cntc_o
  · rw [if_neg h, if_neg (show ¬ nI w = 0 from fun q => h ((nc_eq (a := w) (b := 0) hw (by decide)).mp q))]
    exact cntc_z
theorem rwI_c {v w : Int32} {i : Nat} (h : w = v) : upd (rwI v i) i w = rwI v (i + 1) := by rw [h, rwI_s]
theorem st_lt {i t : Nat} (hi : i < 201) (ht : 2 ≤ t) : 2 * (i / (2 * t)) + 1 < 201 := by
  have h1 : i / (2 * t) ≤ i / 4 := Nat.div_le_div_left (by omega) (by decide)
  omega
def tw_join (x1 x2 x3 x4 : Int32) : Int32 := if inM x1 (nI 0) (nI 7) = 0 then nI 1 else if inM x2 (nI 0) (nI 7) = 0 then nI 1 else if inM x3 (nI 0) (nI 7) = 0 then nI 1 else if inM x4 (nI 0) (nI 3) = 0 then nI 2 else nI 0
def tw_change (x1 x2 : Int32) : Int32 := if inM x1 (nI 0) (nI 7) = 0 then nI 1 else if inM x2 (nI 0) (nI 7) = 0 then nI 2 else nI 0
def tw_move (x1 x2 : Int32) : Int32 := if inM x1 (nI 0) (nI 7) = 0 then nI 1 else if inM x2 (-100) (nI 100) = 0 then nI 2 else nI 0
def tw_stretch (x1 x2 : Int32) : Int32 := if inM x1 (nI 0) (nI 7) = 0 then nI 1 else if inM x2 (nI 2) (nI 10) = 0 then nI 2 else nI 0
def tw_set (x1 x2 x3 : Int32) : Int32 := if inM x1 (nI 0) (nI 4) = 0 then nI 1 else if inM x2 (nI 0) (nI 7) = 0 then nI 1 else if inM x3 (-10000) (nI 10000) = 0 then nI 2 else nI 0
def tw_mix (x1 x2 x3 x4 : Int32) : Int32 := if inM x1 (nI 0) (nI 4) = 0 then nI 1 else if inM x2 (nI 0) (nI 4) = 0 then nI 1 else if inM x3 (nI 0) (nI 4) = 0 then nI 1 else if inM x4 (nI 0) (nI 4) = 0 then nI 2 else nI 0
def tw_thick (x1 x2 : Int32) : Int32 := if inM x1 (nI 0) (nI 4) = 0 then nI 1 else if inM x2 (nI 0) (nI 255) = 0 then nI 2 else nI 0
set_option maxHeartbeats 4000000 in
set_option maxRecDepth 100000 in
theorem conX4_join (l : Launch) (D : va_G) (T : Nat → ClassId) (sz m0 : Nat) (th x1 x2 x3 x4 : Int32) : Met l yX4_join wsX4_join ({ frames := 2, cells := 1, slots := 201, locals := 42 }) (cP D T [.ref m0, .int x1, .int x2, .int x3, .int x4] (fun H => H.size = sz ∧ MF D T m0 th H)) (va_Qi (fun (r : Int32) (_ : Unit) => tw_join x1 x2 x3 x4 = nI 0 → r = nI 0) (fun _ t => MT D m0 (tw_join x1 x2 x3 x4) t.heap) (MA m0 sz)) 1 201 (MA m0 sz) := by
  refine Met.ofW (cc := cX4_join) (maxL := 9) (ret := (some .int)) (by decide) rfl ?_
  intro p e s m args below meth c s₁ B hml hv9
  obtain ⟨rfl, hK, hsz, hw⟩ := hv9
  have hx := B.exec
  have hb := B.bytes
  have hr := B.returns
  have hts := atoms_spec (ws := wsX4_join) B.pre
  have hown : s.vm.findClass RX4 = some m.cls := findClass_of_methodNamed B.named
  have hlocks := B.notSynchronized
  have hin4 : ∀ w ∈ wsX40, w ∈ wsX4_join := by decide +kernel
  generalize hAe : (MA m0 sz) = A
  have hA : ∀ q : Nat, ((m0 ≤ q ∧ q < m0 + 16) ∨ s.heap.size ≤ q) → A q := fun q h9 => by subst hAe; show (m0 ≤ q ∧ q < m0 + 16) ∨ sz ≤ q; omega
  have hS : va_S A s.heap s.heap [] := va_S.rf
  have hl := lv_entry ([.ref m0, .int x1, .int x2, .int x3, .int x4]) (n := 9) (Nat.le_of_ble_eq_true rfl)
  rw [lg_entry_eq]
  generalize (lg_sl ([.ref m0, .int x1, .int x2, .int x3, .int x4]) ++ List.replicate (9 - (lg_sl ([.ref m0, .int x1, .int x2, .int x3, .int x4])).length) Slot.unset).toArray = ls at hl ⊢
  have hl : lv_has ls 9 [(0, .ref m0), (1, .int x1), (2, .int x2), (3, .int x3), (4, .int x4)] := hl
  refine lv_aload_n hx hb dX4_join_0 rfl (lv_at hl 0 rfl) ?_
  refine lv_iconst (v := nI 0) hx hb dX4_join_1 (by decide) ?_
  refine q_put (v := .int (nI 0)) hx hb hts hin4 tyX4 tyX4_ok nmX4 hown hK hw.o rfl 0 (by decide) (hts (.fieldLink RX4 19 "PuddingstoneLineModel" "thrown" "I") (by decide +kernel)) (fun _ h9 => h9) rfl rfl rfl (Nat.le_of_ble_eq_true rfl) hS (hA _ (by omega)) dX4_join_2 (fun H1 locs1 hw9 oq hS => ?_)
  replace hw := hw.setO hw9 oq
  refine lv_iload_n hx hb dX4_join_5 rfl (lv_at hl 1 rfl) ?_
  refine vp_callSi (va_runS (As := [.int x1]) (rest := []) ⟨hx, hb, hml, hown, hts⟩ (conX4_isSet l D T x1) (va_cwS 1 hts gX4_join_X4_isSet rfl rfl rfl (by decide +kernel) ⟨Nat.le_of_ble_eq_true rfl, Nat.le_of_ble_eq_true rfl⟩) (preS hK trivial) rfl rfl hl.1 rfl (lv_room (Nat.le_of_ble_eq_true rfl)) dX4_join_6 ⟨Nat.le_of_ble_eq_true rfl, Nat.le_of_ble_eq_true rfl⟩).run (fun r1 hr1 => ?_)
  rw [hr1]
  refine lv_if_eq (tgt := 26) hx hb dX4_join_9 (by decide) (fun c9 => ?_) (fun c9 => ?_)
  · skip
    refine lv_aload_n hx hb dX4_join_26 rfl (lv_at hl 0 rfl) ?_
    refine lv_iconst (v := nI 1) hx hb dX4_join_27 (by decide) ?_
    refine va_calli (va_runV (As := [.int (nI 1)]) (rest := []) ⟨hx, hb, hml, hown, hts⟩ (conX4_no l D T m0 (nI 0) (nI 1) (.ref (m0 + 1)) (.ref (m0 + 10))) (cwV 1 hts gX4_join_X4_no rfl rfl rfl (by decide +kernel) ⟨Nat.le_of_ble_eq_true rfl, Nat.le_of_ble_eq_true rfl⟩) (preV hK hw.o rfl hw.o) rfl rfl hl.1 rfl (lv_room (Nat.le_of_ble_eq_true rfl)) dX4_join_28 ⟨Nat.le_of_ble_eq_true rfl, Nat.le_of_ble_eq_true rfl⟩) hS (fun q _ h9 => (hA q (by have h8 : q = m0 := h9; omega))) (fun q h9 => (hA q (by have h8 : q = m0 := h9; omega))) (fun r u t H1 locs1 ht hvm hw9 hB hz1 hk1 hS => ?_)
    try dsimp only at hB
    rw [ht] at hB
    rw [hw9]
    replace hw := hw.setK hB hk1
    have ht9 : tw_join x1 x2 x3 x4 = nI 1 := by unfold tw_join; rw [if_pos c9]
    refine W.widen (k := 1) (n := 201) (by first | omega | decide) (by first | omega | decide) ?_
    exact W.iret (v := nI 0) hx hb hr (fun t ht _ => ⟨⟨nI 0, (), rfl, by exact fun h9 => absurd (ht9.symm.trans h9) (by decide), by dsimp only; rw [ht]; exact (by rw [ht9]; exact ⟨_, _, hw.o⟩)⟩, hS.F ht⟩) hS.2.2 dX4_join_31
  · skip
    obtain ⟨k1, hk1, rfl⟩ := inM_ok (n := 7) (by decide) c9
    refine lv_iload_n hx hb dX4_join_12 rfl (lv_at hl 2 rfl) ?_
    refine vp_callSi (va_runS (As := [.int x2]) (rest := []) ⟨hx, hb, hml, hown, hts⟩ (conX4_isSet l D T x2) (va_cwS 1 hts gX4_join_X4_isSet rfl rfl rfl (by decide +kernel) ⟨Nat.le_of_ble_eq_true rfl, Nat.le_of_ble_eq_true rfl⟩) (preS hK trivial) rfl rfl hl.1 rfl (lv_room (Nat.le_of_ble_eq_true rfl)) dX4_join_13 ⟨Nat.le_of_ble_eq_true rfl, Nat.le_of_ble_eq_true rfl⟩).run (fun r2 hr2 => ?_)
    rw [hr2]
    refine lv_if_eq (tgt := 26) hx hb dX4_join_16 (by decide) (fun c16 => ?_) (fun c16 => ?_)
    · skip
      refine lv_aload_n hx hb dX4_join_26 rfl (lv_at hl 0 rfl) ?_
      refine lv_iconst (v := nI 1) hx hb dX4_join_27 (by decide) ?_
      refine va_calli (va_runV (As := [.int (nI 1)]) (rest := []) ⟨hx, hb, hml, hown, hts⟩ (conX4_no l D T m0 (nI 0) (nI 1) (.ref (m0 + 1)) (.ref (m0 + 10))) (cwV 1 hts gX4_join_X4_no rfl rfl rfl (by decide +kernel) ⟨Nat.le_of_ble_eq_true rfl, Nat.le_of_ble_eq_true rfl⟩) (preV hK hw.o rfl hw.o) rfl rfl hl.1 rfl (lv_room (Nat.le_of_ble_eq_true rfl)) dX4_join_28 ⟨Nat.le_of_ble_eq_true rfl, Nat.le_of_ble_eq_true rfl⟩) hS (fun q _ h9 => (hA q (by have h8 : q = m0 := h9; omega))) (fun q h9 => (hA q (by have h8 : q = m0 := h9; omega))) (fun r u t H1 locs1 ht hvm hw9 hB hz1 hk1 hS => ?_)
      try dsimp only at hB
      rw [ht] at hB
      rw [hw9]
      replace hw := hw.setK hB hk1
      have ht9 : tw_join (nI k1) x2 x3 x4 = nI 1 := by unfold tw_join; rw [if_neg c9, if_pos c16]
      refine W.widen (k := 1) (n := 201) (by first | omega | decide) (by first | omega | decide) ?_
      exact W.iret (v := nI 0) hx hb hr (fun t ht _ => ⟨⟨nI 0, (), rfl, by exact fun h9 => absurd (ht9.symm.trans h9) (by decide), by dsimp only; rw [ht]; exact (by rw [ht9]; exact ⟨_, _, hw.o⟩)⟩, hS.F ht⟩) hS.2.2 dX4_join_31
    · skip
      obtain ⟨k2, hk2, rfl⟩ := inM_ok (n := 7) (by decide) c16
      refine lv_iload_n hx hb dX4_join_19 rfl (lv_at hl 3 rfl) ?_
      refine vp_callSi (va_runS (As := [.int x3]) (rest := []) ⟨hx, hb, hml, hown, hts⟩ (conX4_isSet l D T x3) (va_cwS 1 hts gX4_join_X4_isSet rfl rfl rfl (by decide +kernel) ⟨Nat.le_of_ble_eq_true rfl, Nat.le_of_ble_eq_true rfl⟩) (preS hK trivial) rfl rfl hl.1 rfl (lv_room (Nat.le_of_ble_eq_true rfl)) dX4_join_20 ⟨Nat.le_of_ble_eq_true rfl, Nat.le_of_ble_eq_true rfl⟩).run (fun r3 hr3 => ?_)
      rw [hr3]
      refine lv_if_ne (tgt := 32) hx hb dX4_join_23 (by decide) (fun c23 => ?_) (fun c23 => ?_)
      · skip
        obtain ⟨k3, hk3, rfl⟩ := inM_ok (n := 7) (by decide) c23
        refine lv_iload hx hb dX4_join_32 (lv_at hl 4 rfl) ?_
        refine lv_iconst (v := nI 0) hx hb dX4_join_34 (by decide) ?_
        refine lv_iconst (v := nI 3) hx hb dX4_join_35 (by decide) ?_
        refine vp_callSi (va_runS (As := [.int x4, .int (nI 0), .int (nI 3)]) (rest := []) ⟨hx, hb, hml, hown, hts⟩ (conX4_isIn l D T x4 (nI 0) (nI 3)) (va_cwS 3 hts gX4_join_X4_isIn rfl rfl rfl (by decide +kernel) ⟨Nat.le_of_ble_eq_true rfl, Nat.le_of_ble_eq_true rfl⟩) (preS hK trivial) rfl rfl hl.1 rfl (lv_room (Nat.le_of_ble_eq_true rfl)) dX4_join_36 ⟨Nat.le_of_ble_eq_true rfl, Nat.le_of_ble_eq_true rfl⟩).run (fun r4 hr4 => ?_)
        rw [hr4]
        refine lv_if_ne (tgt := 48) hx hb dX4_join_39 (by decide) (fun c39 => ?_) (fun c39 => ?_)
        · skip
          obtain ⟨k4, hk4, rfl⟩ := inM_ok (n := 3) (by decide) c39
          refine lv_sipush (v := nI 201) hx hb dX4_join_48 (by decide) ?_
          obtain ⟨b1, hb1⟩ : ∃ z : Nat, z = H1.size := ⟨_, rfl⟩
          have lw_b1 : m0 + 16 ≤ b1 := by have h8 := hw.lt; omega
          have ln_b1 : s.heap.size ≤ b1 := by have h8 := hS.1; omega
          refine q_newz hx hb (hts (.arrayClass .boolean) (by decide +kernel)) hK 201 rfl (by decide) (Nat.le_of_ble_eq_true rfl) (Nat.le_of_ble_eq_true rfl) hS dX4_join_51 (fun H1 hw9 z1 o1 hS => ?_)
          rw [← hb1] at hw9 ⊢
          replace hw := hw.old o1
          have nb1 := hw9
          have sb1 : H1.size = b1 + 1 := by omega
          refine lv_astore (lv' := [(5, .ref b1), (0, .ref m0), (1, .int (nI k1)), (2, .int (nI k2)), (3, .int (nI k3)), (4, .int (nI k4))]) hx hb dX4_join_53 hl (by decide) rfl (fun ls hl => ?_)
          refine lv_iconst (v := nI 0) hx hb dX4_join_55 (by decide) ?_
          refine lv_istore (lv' := [(6, .int (nI 0)), (5, .ref b1), (0, .ref m0), (1, .int (nI k1)), (2, .int (nI k2)), (3, .int (nI k3)), (4, .int (nI k4))]) hx hb dX4_join_56 hl (by decide) rfl (fun ls hl => ?_)
          refine q_for (fun (i : Nat) (H : Heap) (locs : List Loc) (ls : Array Slot) => va_S A s.heap H locs ∧ lv_has ls 9 [(6, .int (nI i)), (5, .ref b1), (0, .ref m0), (1, .int (nI k1)), (2, .int (nI k2)), (3, .int (nI k3)), (4, .int (nI k4))] ∧ pAt D H b1 (eN (T 0) 201 zr0) ∧ MF D T m0 (nI 0) H) (N := 201) 0 (by omega) ?_ ?_ ?_
          · skip
            exact ⟨hS, lv_sub hl [0, 1, 2, 3, 4, 5, 6] rfl, nb1, hw⟩
          · skip
            intro i H locs ls hi9 hin9 hnext
            obtain ⟨hS, hl, nb1, hw⟩ := hin9
            refine lv_iload hx hb dX4_join_58 (lv_at hl 0 rfl) ?_
            refine lv_sipush (v := nI 201) hx hb dX4_join_60 (by decide) ?_
            refine lv_icmp_ge (tgt := 182) hx hb dX4_join_63 (by decide) (fun c63 => ?_) (fun c63 => ?_)
            · skip
              have c63 : 201 ≤ i := (nc_le (a := 201) (b := i) (by omega) (by omega)).mp c63
              omega
            · skip
              have c63 : ¬ (201 ≤ i) := fun q9 => c63 ((nc_le (a := 201) (b := i) (by omega) (by omega)).mpr q9)
              refine lv_aload_n hx hb dX4_join_66 rfl (lv_at hl 2 rfl) ?_
              refine q_get (v := .ref (m0 + 1)) hx hb hts hin4 hown hK hw.o rfl 1 (by decide) (hts (.fieldLink RX4 11 "PuddingstoneLineModel" "sets" "[[Z") (by decide +kernel)) (fun _ h9 => h9) rfl dX4_join_67 ?_
              refine lv_iload_n hx hb dX4_join_70 rfl (lv_at hl 4 rfl) ?_
              refine q_aald hx hb hK 4 rfl rfl hw.s k2 (rfl) (by omega) (by decide) (b := m0 + 2 + k2) rfl dX4_join_71 ?_
              refine lv_iload hx hb dX4_join_72 (lv_at hl 0 rfl) ?_
              refine q_zald hx hb hK (hw.f k2 (by omega)) i (rfl) (by omega) (by decide) dX4_join_74 ?_
              refine W.eq (g2 := F0 m 75 ls [.int (nI 0)]) rfl ?_
              refine lv_istore (lv' := [(7, .int (nI 0)), (6, .int (nI i)), (5, .ref b1), (0, .ref m0), (1, .int (nI k1)), (2, .int (nI k2)), (3, .int (nI k3)), (4, .int (nI k4))]) hx hb dX4_join_75 hl (by decide) rfl (fun ls hl => ?_)
              refine lv_aload_n hx hb dX4_join_77 rfl (lv_at hl 3 rfl) ?_
              refine q_get (v := .ref (m0 + 1)) hx hb hts hin4 hown hK hw.o rfl 1 (by decide) (hts (.fieldLink RX4 11 "PuddingstoneLineModel" "sets" "[[Z") (by decide +kernel)) (fun _ h9 => h9) rfl dX4_join_78 ?_
              refine lv_iload_n hx hb dX4_join_81 rfl (lv_at hl 6 rfl) ?_
              refine q_aald hx hb hK 4 rfl rfl hw.s k3 (rfl) (by omega) (by decide) (b := m0 + 2 + k3) rfl dX4_join_82 ?_
              refine lv_iload hx hb dX4_join_83 (lv_at hl 1 rfl) ?_
              refine q_zald hx hb hK (hw.f k3 (by omega)) i (rfl) (by omega) (by decide) dX4_join_85 ?_
              refine W.eq (g2 := F0 m 86 ls [.int (nI 0)]) rfl ?_
              refine lv_istore (lv' := [(8, .int (nI 0)), (7, .int (nI 0)), (6, .int (nI i)), (5, .ref b1), (0, .ref m0), (1, .int (nI k1)), (2, .int (nI k2)), (3, .int (nI k3)), (4, .int (nI k4))]) hx hb dX4_join_86 hl (by decide) rfl (fun ls hl => ?_)
              refine lv_aload hx hb dX4_join_88 (lv_at hl 3 rfl) ?_
              refine lv_iload hx hb dX4_join_90 (lv_at hl 2 rfl) ?_
              refine lv_iload hx hb dX4_join_92 (lv_at hl 8 rfl) ?_
              refine lv_if_ne (tgt := 115) hx hb dX4_join_94 (by decide) (fun c94 => ?_) (fun c94 => ?_)
              · skip
                have c94 : ¬ (k4 = 0) := fun q9 => c94 ((nc_eq (a := k4) (b := 0) (by omega) (by omega)).mpr q9)
                refine lv_iload hx hb dX4_join_115 (lv_at hl 8 rfl) ?_
                refine lv_iconst (v := nI 1) hx hb dX4_join_117 (by decide) ?_
                refine lv_icmp_ne (tgt := 139) hx hb dX4_join_118 (by decide) (fun c118 => ?_) (fun c118 => ?_)
                · skip
                  have c118 : ¬ (k4 = 1) := fun q9 => c118 ((nc_eq (a := k4) (b := 1) (by omega) (by omega)).mpr q9)
                  refine lv_iload hx hb dX4_join_139 (lv_at hl 8 rfl) ?_
                  refine lv_iconst (v := nI 2) hx hb dX4_join_141 (by decide) ?_
                  refine lv_icmp_ne (tgt := 163) hx hb dX4_join_142 (by decide) (fun c142 => ?_) (fun c142 => ?_)
                  · skip
                    have c142 : ¬ (k4 = 2) := fun q9 => c142 ((nc_eq (a := k4) (b := 2) (by omega) (by omega)).mpr q9)
                    refine lv_iload hx hb dX4_join_163 (lv_at hl 1 rfl) ?_
                    refine lv_iload hx hb dX4_join_165 (lv_at hl 0 rfl) ?_
                    refine lv_icmp_eq (tgt := 174) hx hb dX4_join_167 (by decide) (fun c167 => ?_) (fun c167 => ?_)
                    · skip
                      have c167 : 0 = 0 := (nc_eq (a := 0) (b := 0) (by omega) (by omega)).mp c167
                      refine lv_iconst (v := nI 0) hx hb dX4_join_174 (by decide) ?_
                      refine q_zast hx hb hK nb1 i (rfl) (by omega) (by decide) (rfl) hS (hA _ (by omega)) dX4_join_175 (fun H1 locs1 hw9 hz oq hS => ?_)
                      replace hw := hw.ne oq (by omega)
                      have nb1 := hw9
                      refine lv_iinc (v := nI (i + 1)) (lv' := [(6, .int (nI (i + 1))), (8, .int (nI 0)), (7, .int (nI 0)), (5, .ref b1), (0, .ref m0), (1, .int (nI k1)), (2, .int (nI k2)), (3, .int (nI k3)), (4, .int (nI k4))]) hx hb dX4_join_176 hl (k := 2) rfl (inc_1 _) (by decide) rfl (fun ls hl => ?_)
                      refine lv_goto (tgt := 58) hx hb dX4_join_179 (by decide) ?_
                      have e5 : (eN (T 0) 201 (upd zr0 i (nI 0))) = (eN (T 0) 201 zr0) := by (rw [upd_z])
                      exact hnext _ _ _ ⟨hS, lv_sub hl [0, 3, 4, 5, 6, 7, 8] rfl, (by rw [← e5]; exact nb1), hw⟩
                    · skip
                      have c167 : ¬ (0 = 0) := fun q9 => c167 ((nc_eq (a := 0) (b := 0) (by omega) (by omega)).mpr q9)
                      omega
                  · skip
                    have c142 : k4 = 2 := (nc_eq (a := k4) (b := 2) (by omega) (by omega)).mp c142
                    refine lv_iload hx hb dX4_join_145 (lv_at hl 1 rfl) ?_
                    refine lv_if_eq (tgt := 159) hx hb dX4_join_147 (by decide) (fun c147 => ?_) (fun c147 => ?_)
                    · skip
                      have c147 : 0 = 0 := (nc_eq (a := 0) (b := 0) (by omega) (by omega)).mp c147
                      refine lv_iconst (v := nI 0) hx hb dX4_join_159 (by decide) ?_
                      refine lv_goto (tgt := 175) hx hb dX4_join_160 (by decide) ?_
                      refine q_zast hx hb hK nb1 i (rfl) (by omega) (by decide) (rfl) hS (hA _ (by omega)) dX4_join_175 (fun H1 locs1 hw9 hz oq hS => ?_)
                      replace hw := hw.ne oq (by omega)
                      have nb1 := hw9
                      refine lv_iinc (v := nI (i + 1)) (lv' := [(6, .int (nI (i + 1))), (8, .int (nI 0)), (7, .int (nI 0)), (5, .ref b1), (0, .ref m0), (1, .int (nI k1)), (2, .int (nI k2)), (3, .int (nI k3)), (4, .int (nI k4))]) hx hb dX4_join_176 hl (k := 2) rfl (inc_1 _) (by decide) rfl (fun ls hl => ?_)
                      refine lv_goto (tgt := 58) hx hb dX4_join_179 (by decide) ?_
                      have e6 : (eN (T 0) 201 (upd zr0 i (nI 0))) = (eN (T 0) 201 zr0) := by (rw [upd_z])
                      exact hnext _ _ _ ⟨hS, lv_sub hl [0, 3, 4, 5, 6, 7, 8] rfl, (by rw [← e6]; exact nb1), hw⟩
                    · skip
                      have c147 : ¬ (0 = 0) := fun q9 => c147 ((nc_eq (a := 0) (b := 0) (by omega) (by omega)).mpr q9)
                      omega
                · skip
                  have c118 : k4 = 1 := (nc_eq (a := k4) (b := 1) (by omega) (by omega)).mp c118
                  refine lv_iload hx hb dX4_join_121 (lv_at hl 1 rfl) ?_
                  refine lv_if_eq (tgt := 135) hx hb dX4_join_123 (by decide) (fun c123 => ?_) (fun c123 => ?_)
                  · skip
                    have c123 : 0 = 0 := (nc_eq (a := 0) (b := 0) (by omega) (by omega)).mp c123
                    refine lv_iconst (v := nI 0) hx hb dX4_join_135 (by decide) ?_
                    refine lv_goto (tgt := 175) hx hb dX4_join_136 (by decide) ?_
                    refine q_zast hx hb hK nb1 i (rfl) (by omega) (by decide) (rfl) hS (hA _ (by omega)) dX4_join_175 (fun H1 locs1 hw9 hz oq hS => ?_)
                    replace hw := hw.ne oq (by omega)
                    have nb1 := hw9
                    refine lv_iinc (v := nI (i + 1)) (lv' := [(6, .int (nI (i + 1))), (8, .int (nI 0)), (7, .int (nI 0)), (5, .ref b1), (0, .ref m0), (1, .int (nI k1)), (2, .int (nI k2)), (3, .int (nI k3)), (4, .int (nI k4))]) hx hb dX4_join_176 hl (k := 2) rfl (inc_1 _) (by decide) rfl (fun ls hl => ?_)
                    refine lv_goto (tgt := 58) hx hb dX4_join_179 (by decide) ?_
                    have e7 : (eN (T 0) 201 (upd zr0 i (nI 0))) = (eN (T 0) 201 zr0) := by (rw [upd_z])
                    exact hnext _ _ _ ⟨hS, lv_sub hl [0, 3, 4, 5, 6, 7, 8] rfl, (by rw [← e7]; exact nb1), hw⟩
                  · skip
                    have c123 : ¬ (0 = 0) := fun q9 => c123 ((nc_eq (a := 0) (b := 0) (by omega) (by omega)).mpr q9)
                    omega
              · skip
                have c94 : k4 = 0 := (nc_eq (a := k4) (b := 0) (by omega) (by omega)).mp c94
                refine lv_iload hx hb dX4_join_97 (lv_at hl 1 rfl) ?_
                refine lv_if_ne (tgt := 107) hx hb dX4_join_99 (by decide) (fun c99 => ?_) (fun c99 => ?_)
                · skip
                  have c99 : ¬ (0 = 0) := fun q9 => c99 ((nc_eq (a := 0) (b := 0) (by omega) (by omega)).mpr q9)
                  omega
                · skip
                  have c99 : 0 = 0 := (nc_eq (a := 0) (b := 0) (by omega) (by omega)).mp c99
                  refine lv_iload hx hb dX4_join_102 (lv_at hl 0 rfl) ?_
                  refine lv_if_eq (tgt := 111) hx hb dX4_join_104 (by decide) (fun c104 => ?_) (fun c104 => ?_)
                  · skip
                    have c104 : 0 = 0 := (nc_eq (a := 0) (b := 0) (by omega) (by omega)).mp c104
                    refine lv_iconst (v := nI 0) hx hb dX4_join_111 (by decide) ?_
                    refine lv_goto (tgt := 175) hx hb dX4_join_112 (by decide) ?_
                    refine q_zast hx hb hK nb1 i (rfl) (by omega) (by decide) (rfl) hS (hA _ (by omega)) dX4_join_175 (fun H1 locs1 hw9 hz oq hS => ?_)
                    replace hw := hw.ne oq (by omega)
                    have nb1 := hw9
                    refine lv_iinc (v := nI (i + 1)) (lv' := [(6, .int (nI (i + 1))), (8, .int (nI 0)), (7, .int (nI 0)), (5, .ref b1), (0, .ref m0), (1, .int (nI k1)), (2, .int (nI k2)), (3, .int (nI k3)), (4, .int (nI k4))]) hx hb dX4_join_176 hl (k := 2) rfl (inc_1 _) (by decide) rfl (fun ls hl => ?_)
                    refine lv_goto (tgt := 58) hx hb dX4_join_179 (by decide) ?_
                    have e8 : (eN (T 0) 201 (upd zr0 i (nI 0))) = (eN (T 0) 201 zr0) := by (rw [upd_z])
                    exact hnext _ _ _ ⟨hS, lv_sub hl [0, 3, 4, 5, 6, 7, 8] rfl, (by rw [← e8]; exact nb1), hw⟩
                  · skip
                    have c104 : ¬ (0 = 0) := fun q9 => c104 ((nc_eq (a := 0) (b := 0) (by omega) (by omega)).mpr q9)
                    omega
          · skip
            intro H locs ls hin9
            obtain ⟨hS, hl, nb1, hw⟩ := hin9
            refine lv_iload hx hb dX4_join_58 (lv_at hl 0 rfl) ?_
            refine lv_sipush (v := nI 201) hx hb dX4_join_60 (by decide) ?_
            refine lv_icmp_ge (tgt := 182) hx hb dX4_join_63 (by decide) (fun c63 => ?_) (fun c63 => ?_)
            · skip
              have c63 : 201 ≤ 201 := (nc_le (a := 201) (b := 201) (by omega) (by omega)).mp c63
              refine lv_aload_n hx hb dX4_join_182 rfl (lv_at hl 2 rfl) ?_
              refine q_get (v := .ref (m0 + 1)) hx hb hts hin4 hown hK hw.o rfl 1 (by decide) (hts (.fieldLink RX4 11 "PuddingstoneLineModel" "sets" "[[Z") (by decide +kernel)) (fun _ h9 => h9) rfl dX4_join_183 ?_
              refine lv_iload_n hx hb dX4_join_186 rfl (lv_at hl 3 rfl) ?_
              refine lv_aload hx hb dX4_join_187 (lv_at hl 1 rfl) ?_
              refine q_aasta hx hb hK 4 0 (ty := .boolean) rfl rfl (hK.2.1.2.2.1) hw.s nb1 k1 (rfl) (by omega) (by decide) (hK.1.2 0 _ rfl).2 hS (hA _ (by omega)) dX4_join_189 (fun H1 locs1 hw9 hz oq hS => ?_)
              have fo := hw.o.ne oq (by omega)
              have fs := hw9
              replace nb1 := nb1.ne oq (by omega)
              refine lv_aload hx hb dX4_join_190 (lv_at hl 1 rfl) ?_
              refine vp_callSi (va_runS (As := [.ref b1]) (rest := []) ⟨hx, hb, hml, hown, hts⟩ (conX4_count l D T b1 (nI 0)) (va_cwS 1 hts gX4_join_X4_count rfl rfl rfl (by decide +kernel) ⟨Nat.le_of_ble_eq_true rfl, Nat.le_of_ble_eq_true rfl⟩) (preS hK nb1) rfl rfl hl.1 rfl (lv_room (Nat.le_of_ble_eq_true rfl)) dX4_join_192 ⟨Nat.le_of_ble_eq_true rfl, Nat.le_of_ble_eq_true rfl⟩).run (fun r9 hr9 => ?_)
              rw [hr9]
              rw [cntc_z]
              have ht9 : tw_join (nI k1) (nI k2) (nI k3) (nI k4) = nI 0 := by unfold tw_join; rw [if_neg c9, if_neg c16, if_neg c23, if_neg c39]
              exact W.iret (v := nI 0) hx hb hr (fun t ht _ => ⟨⟨nI 0, (), rfl, by intro _; rfl, by dsimp only; rw [ht]; exact (by rw [ht9]; exact ⟨_, _, fo⟩)⟩, hS.F ht⟩) hS.2.2 dX4_join_195
            · skip
              have c63 : ¬ (201 ≤ 201) := fun q9 => c63 ((nc_le (a := 201) (b := 201) (by omega) (by omega)).mpr q9)
              omega
        · skip
          refine lv_aload_n hx hb dX4_join_42 rfl (lv_at hl 0 rfl) ?_
          refine lv_iconst (v := nI 2) hx hb dX4_join_43 (by decide) ?_
          refine va_calli (va_runV (As := [.int (nI 2)]) (rest := []) ⟨hx, hb, hml, hown, hts⟩ (conX4_no l D T m0 (nI 0) (nI 2) (.ref (m0 + 1)) (.ref (m0 + 10))) (cwV 1 hts gX4_join_X4_no rfl rfl rfl (by decide +kernel) ⟨Nat.le_of_ble_eq_true rfl, Nat.le_of_ble_eq_true rfl⟩) (preV hK hw.o rfl hw.o) rfl rfl hl.1 rfl (lv_room (Nat.le_of_ble_eq_true rfl)) dX4_join_44 ⟨Nat.le_of_ble_eq_true rfl, Nat.le_of_ble_eq_true rfl⟩) hS (fun q _ h9 => (hA q (by have h8 : q = m0 := h9; omega))) (fun q h9 => (hA q (by have h8 : q = m0 := h9; omega))) (fun r u t H1 locs1 ht hvm hw9 hB hz1 hk1 hS => ?_)
          try dsimp only at hB
          rw [ht] at hB
          rw [hw9]
          replace hw := hw.setK hB hk1
          have ht9 : tw_join (nI k1) (nI k2) (nI k3) x4 = nI 2 := by unfold tw_join; rw [if_neg c9, if_neg c16, if_neg c23, if_pos c39]
          refine W.widen (k := 1) (n := 201) (by first | omega | decide) (by first | omega | decide) ?_
          exact W.iret (v := nI 0) hx hb hr (fun t ht _ => ⟨⟨nI 0, (), rfl, by exact fun h9 => absurd (ht9.symm.trans h9) (by decide), by dsimp only; rw [ht]; exact (by rw [ht9]; exact ⟨_, _, hw.o⟩)⟩, hS.F ht⟩) hS.2.2 dX4_join_47
      · skip
        refine lv_aload_n hx hb dX4_join_26 rfl (lv_at hl 0 rfl) ?_
        refine lv_iconst (v := nI 1) hx hb dX4_join_27 (by decide) ?_
        refine va_calli (va_runV (As := [.int (nI 1)]) (rest := []) ⟨hx, hb, hml, hown, hts⟩ (conX4_no l D T m0 (nI 0) (nI 1) (.ref (m0 + 1)) (.ref (m0 + 10))) (cwV 1 hts gX4_join_X4_no rfl rfl rfl (by decide +kernel) ⟨Nat.le_of_ble_eq_true rfl, Nat.le_of_ble_eq_true rfl⟩) (preV hK hw.o rfl hw.o) rfl rfl hl.1 rfl (lv_room (Nat.le_of_ble_eq_true rfl)) dX4_join_28 ⟨Nat.le_of_ble_eq_true rfl, Nat.le_of_ble_eq_true rfl⟩) hS (fun q _ h9 => (hA q (by have h8 : q = m0 := h9; omega))) (fun q h9 => (hA q (by have h8 : q = m0 := h9; omega))) (fun r u t H1 locs1 ht hvm hw9 hB hz1 hk1 hS => ?_)
        try dsimp only at hB
        rw [ht] at hB
        rw [hw9]
        replace hw := hw.setK hB hk1
        have ht9 : tw_join (nI k1) (nI k2) x3 x4 = nI 1 := by unfold tw_join; rw [if_neg c9, if_neg c16, if_pos c23]
        refine W.widen (k := 1) (n := 201) (by first | omega | decide) (by first | omega | decide) ?_
        exact W.iret (v := nI 0) hx hb hr (fun t ht _ => ⟨⟨nI 0, (), rfl, by exact fun h9 => absurd (ht9.symm.trans h9) (by decide), by dsimp only; rw [ht]; exact (by rw [ht9]; exact ⟨_, _, hw.o⟩)⟩, hS.F ht⟩) hS.2.2 dX4_join_31

set_option maxHeartbeats 4000000 in
set_option maxRecDepth 100000 in
theorem conX4_changed (l : Launch) (D : va_G) (T : Nat → ClassId) (sz : Nat) (a : Nat) (how : Nat) (hho : how ≤ 7) : Met l yX4_changed wsX4_changed ({ frames := 2, cells := 1, slots := 201, locals := 45 }) (cP D T [.ref a, .int (nI how)] (fun H => H.size = sz ∧ pAt D H a (eN (T 0) 201 zr0))) (va_Qr (fun (_ : Unit) => True) (fun _ r t => sz ≤ r ∧ pAt D t.heap r (eN (T 0) 201 (fun _ => chC how))) (fun q : Nat => sz ≤ q)) 1 201 (fun q : Nat => sz ≤ q) := by
  refine Met.ofW (cc := cX4_changed) (maxL := 9) (ret := (some (.array .boolean))) (by decide) rfl ?_
  intro p e s m args below meth c s₁ B hml hv9
  obtain ⟨rfl, hK, hsz, ha⟩ := hv9
  have hx := B.exec
  have hb := B.bytes
  have hr := B.returns
  have hts := atoms_spec (ws := wsX4_changed) B.pre
  have hown : s.vm.findClass RX4 = some m.cls := findClass_of_methodNamed B.named
  have hlocks := B.notSynchronized
  generalize hAe : (fun q : Nat => sz ≤ q) = A
  have hA : ∀ q : Nat, s.heap.size ≤ q → A q := fun q h9 => by subst hAe; show sz ≤ q; omega
  have hS : va_S A s.heap s.heap [] := va_S.rf
  have hl := lv_entry ([.ref a, .int (nI how)]) (n := 9) (Nat.le_of_ble_eq_true rfl)
  rw [lg_entry_eq]
  generalize (lg_sl ([.ref a, .int (nI how)]) ++ List.replicate (9 - (lg_sl ([.ref a, .int (nI how)])).length) Slot.unset).toArray = ls at hl ⊢
  have hl : lv_has ls 9 [(0, .ref a), (1, .int (nI how))] := hl
  refine lv_sipush (v := nI 201) hx hb dX4_changed_0 (by decide) ?_
  obtain ⟨b1, hb1⟩ : ∃ z : Nat, z = s.heap.size := ⟨_, rfl⟩
  have lha_b1 : a < b1 := by have h8 := ha.lt; omega
  have ln_b1 : s.heap.size ≤ b1 := by have h8 := hS.1; omega
  refine q_newz hx hb (hts (.arrayClass .boolean) (by decide +kernel)) hK 201 rfl (by decide) (Nat.le_of_ble_eq_true rfl) (Nat.le_of_ble_eq_true rfl) hS dX4_changed_3 (fun H1 hw9 z1 o1 hS => ?_)
  rw [← hb1] at hw9 ⊢
  replace ha := ha.old o1
  have nb1 := hw9
  have sb1 : H1.size = b1 + 1 := by omega
  refine lv_astore_n (lv' := [(2, .ref b1), (0, .ref a), (1, .int (nI how))]) hx hb dX4_changed_5 rfl hl (by decide) rfl (fun ls hl => ?_)
  refine lv_aload_n hx hb dX4_changed_6 rfl (lv_at hl 1 rfl) ?_
  refine vp_callSi (va_runS (As := [.ref a]) (rest := []) ⟨hx, hb, hml, hown, hts⟩ (conX4_longestZ l D T a) (va_cwS 1 hts gX4_changed_X4_longest rfl rfl rfl (by decide +kernel) ⟨Nat.le_of_ble_eq_true rfl, Nat.le_of_ble_eq_true rfl⟩) (preS hK ha) rfl rfl hl.1 rfl (lv_room (Nat.le_of_ble_eq_true rfl)) dX4_changed_7 ⟨Nat.le_of_ble_eq_true rfl, Nat.le_of_ble_eq_true rfl⟩).run (fun r1 hr1 => ?_)
  rw [hr1]
  refine lv_istore_n (lv' := [(3, .int (nI 0)), (2, .ref b1), (0, .ref a), (1, .int (nI how))]) hx hb dX4_changed_10 rfl hl (by decide) rfl (fun ls hl => ?_)
  refine lv_aload_n hx hb dX4_changed_11 rfl (lv_at hl 2 rfl) ?_
  refine lv_iconst (v := nI 0) hx hb dX4_changed_12 (by decide) ?_
  refine lv_iconst (v := nI 1) hx hb dX4_changed_13 (by decide) ?_
  refine vp_callSi (va_runS (As := [.ref a, .int (nI 0), .int (nI 1)]) (rest := []) ⟨hx, hb, hml, hown, hts⟩ (conX4_firstN l D T a (nI 0) (nI 1) 0 (by omega) (by decide)) (va_cwS 3 hts gX4_changed_X4_first rfl rfl rfl (by decide +kernel) ⟨Nat.le_of_ble_eq_true rfl, Nat.le_of_ble_eq_true rfl⟩) (preS hK ha) rfl rfl hl.1 rfl (lv_room (Nat.le_of_ble_eq_true rfl)) dX4_changed_14 ⟨Nat.le_of_ble_eq_true rfl, Nat.le_of_ble_eq_true rfl⟩).run (fun r2 hr2 => ?_)
  rw [hr2]
  refine lv_istore (lv' := [(4, .int (nI 201)), (3, .int (nI 0)), (2, .ref b1), (0, .ref a), (1, .int (nI how))]) hx hb dX4_changed_17 hl (by decide) rfl (fun ls hl => ?_)
  refine lv_iload_n hx hb dX4_changed_19 rfl (lv_at hl 4 rfl) ?_
  refine lv_iconst (v := nI 5) hx hb dX4_changed_20 (by decide) ?_
  refine lv_icmp_ne (tgt := 67) hx hb dX4_changed_21 (by decide) (fun c21 => ?_) (fun c21 => ?_)
  · skip
    have c21 : ¬ (how = 5) := fun q9 => c21 ((nc_eq (a := how) (b := 5) (by omega) (by omega)).mpr q9)
    refine lv_iload_n hx hb dX4_changed_67 rfl (lv_at hl 4 rfl) ?_
    refine lv_iconst (v := nI 5) hx hb dX4_changed_68 (by decide) ?_
    refine lv_icmp_ne (tgt := 90) hx hb dX4_changed_69 (by decide) (fun c69 => ?_) (fun c69 => ?_)
    · skip
      have c69 : ¬ (how = 5) := fun q9 => c69 ((nc_eq (a := how) (b := 5) (by omega) (by omega)).mpr q9)
      refine lv_sipush (v := nI 201) hx hb dX4_changed_90 (by decide) ?_
      refine lv_istore (lv' := [(5, .int (nI 201)), (4, .int (nI 201)), (3, .int (nI 0)), (2, .ref b1), (0, .ref a), (1, .int (nI how))]) hx hb dX4_changed_93 hl (by decide) rfl (fun ls hl => ?_)
      refine lv_iload_n hx hb dX4_changed_95 rfl (lv_at hl 5 rfl) ?_
      refine lv_bipush (v := nI 6) hx hb dX4_changed_96 (by decide) ?_
      refine lv_icmp_ne (tgt := 123) hx hb dX4_changed_98 (by decide) (fun c98 => ?_) (fun c98 => ?_)
      · skip
        have c98 : ¬ (how = 6) := fun q9 => c98 ((nc_eq (a := how) (b := 6) (by omega) (by omega)).mpr q9)
        refine lv_iconst (v := nI 0) hx hb dX4_changed_123 (by decide) ?_
        refine lv_istore (lv' := [(6, .int (nI 0)), (5, .int (nI 201)), (4, .int (nI 201)), (3, .int (nI 0)), (2, .ref b1), (0, .ref a), (1, .int (nI how))]) hx hb dX4_changed_124 hl (by decide) rfl (fun ls hl => ?_)
        refine q_for (fun (i : Nat) (H : Heap) (locs : List Loc) (ls : Array Slot) => va_S A s.heap H locs ∧ lv_has ls 9 [(6, .int (nI i)), (5, .int (nI 201)), (4, .int (nI 201)), (3, .int (nI 0)), (2, .ref b1), (0, .ref a), (1, .int (nI how))] ∧ pAt D H a (eN (T 0) 201 zr0) ∧ pAt D H b1 (eN (T 0) 201 (rwI (chC how) i))) (N := 201) 0 (by omega) ?_ ?_ ?_
        · skip
          have e3 : (eN (T 0) 201 zr0) = (eN (T 0) 201 (rwI (chC how) 0)) := by (rw [rwI_0])
          exact ⟨hS, lv_sub hl [0, 1, 2, 3, 4, 5, 6] rfl, ha, (by rw [← e3]; exact nb1)⟩
        · skip
          intro i H locs ls hi9 hin9 hnext
          obtain ⟨hS, hl, ha, nb1⟩ := hin9
          refine lv_iload hx hb dX4_changed_126 (lv_at hl 0 rfl) ?_
          refine lv_sipush (v := nI 201) hx hb dX4_changed_128 (by decide) ?_
          refine lv_icmp_ge (tgt := 391) hx hb dX4_changed_131 (by decide) (fun c131 => ?_) (fun c131 => ?_)
          · skip
            have c131 : 201 ≤ i := (nc_le (a := 201) (b := i) (by omega) (by omega)).mp c131
            omega
          · skip
            have c131 : ¬ (201 ≤ i) := fun q9 => c131 ((nc_le (a := 201) (b := i) (by omega) (by omega)).mpr q9)
            refine lv_aload_n hx hb dX4_changed_134 rfl (lv_at hl 5 rfl) ?_
            refine lv_iload hx hb dX4_changed_135 (lv_at hl 0 rfl) ?_
            refine lv_iconst (v := nI 1) hx hb dX4_changed_137 (by decide) ?_
            refine lv_isub hx hb dX4_changed_138 ?_
            refine vp_callSi (va_runS (As := [.ref a, .int ((nI i) - (nI 1))]) (rest := []) ⟨hx, hb, hml, hown, hts⟩ (conX4_isAt l D T a ((nI i) - (nI 1))) (va_cwS 2 hts gX4_changed_X4_isAt rfl rfl rfl (by decide +kernel) ⟨Nat.le_of_ble_eq_true rfl, Nat.le_of_ble_eq_true rfl⟩) (preS hK ha) rfl rfl hl.1 rfl (lv_room (Nat.le_of_ble_eq_true rfl)) dX4_changed_139 ⟨Nat.le_of_ble_eq_true rfl, Nat.le_of_ble_eq_true rfl⟩).run (fun r4 hr4 => ?_)
            rw [hr4]
            refine lv_if_ne (tgt := 156) hx hb dX4_changed_142 (by decide) (fun c142 => ?_) (fun c142 => ?_)
            · skip
              have c142 : ¬ (0 = 0) := fun q9 => c142 ((nc_eq (a := 0) (b := 0) (by omega) (by omega)).mpr q9)
              omega
            · skip
              have c142 : 0 = 0 := (nc_eq (a := 0) (b := 0) (by omega) (by omega)).mp c142
              refine lv_aload_n hx hb dX4_changed_145 rfl (lv_at hl 5 rfl) ?_
              refine lv_iload hx hb dX4_changed_146 (lv_at hl 0 rfl) ?_
              refine lv_iconst (v := nI 1) hx hb dX4_changed_148 (by decide) ?_
              refine lv_iadd hx hb dX4_changed_149 ?_
              rw [nI_add]
              refine vp_callSi (va_runS (As := [.ref a, .int (nI (i + 1))]) (rest := []) ⟨hx, hb, hml, hown, hts⟩ (conX4_isAt l D T a (nI (i + 1))) (va_cwS 2 hts gX4_changed_X4_isAt rfl rfl rfl (by decide +kernel) ⟨Nat.le_of_ble_eq_true rfl, Nat.le_of_ble_eq_true rfl⟩) (preS hK ha) rfl rfl hl.1 rfl (lv_room (Nat.le_of_ble_eq_true rfl)) dX4_changed_150 ⟨Nat.le_of_ble_eq_true rfl, Nat.le_of_ble_eq_true rfl⟩).run (fun r5 hr5 => ?_)
              rw [hr5]
              refine lv_if_eq (tgt := 160) hx hb dX4_changed_153 (by decide) (fun c153 => ?_) (fun c153 => ?_)
              · skip
                have c153 : 0 = 0 := (nc_eq (a := 0) (b := 0) (by omega) (by omega)).mp c153
                refine lv_iconst (v := nI 0) hx hb dX4_changed_160 (by decide) ?_
                refine lv_istore (lv' := [(7, .int (nI 0)), (6, .int (nI i)), (5, .int (nI 201)), (4, .int (nI 201)), (3, .int (nI 0)), (2, .ref b1), (0, .ref a), (1, .int (nI how))]) hx hb dX4_changed_161 hl (by decide) rfl (fun ls hl => ?_)
                refine lv_iload hx hb dX4_changed_163 (lv_at hl 1 rfl) ?_
                refine lv_if_eq (tgt := 177) hx hb dX4_changed_165 (by decide) (fun c165 => ?_) (fun c165 => ?_)
                · skip
                  have c165 : i = 0 := (nc_eq (a := i) (b := 0) (by omega) (by omega)).mp c165
                  refine lv_iload hx hb dX4_changed_177 (lv_at hl 1 rfl) ?_
                  refine lv_sipush (v := nI 200) hx hb dX4_changed_179 (by decide) ?_
                  refine lv_icmp_eq (tgt := 194) hx hb dX4_changed_182 (by decide) (fun c182 => ?_) (fun c182 => ?_)
                  · skip
                    have c182 : i = 200 := (nc_eq (a := i) (b := 200) (by omega) (by omega)).mp c182
                    refine lv_iconst (v := nI 1) hx hb dX4_changed_194 (by decide) ?_
                    refine lv_goto (tgt := 199) hx hb dX4_changed_195 (by decide) ?_
                    refine lv_istore (lv' := [(8, .int (nI 1)), (7, .int (nI 0)), (6, .int (nI i)), (5, .int (nI 201)), (4, .int (nI 201)), (3, .int (nI 0)), (2, .ref b1), (0, .ref a), (1, .int (nI how))]) hx hb dX4_changed_199 hl (by decide) rfl (fun ls hl => ?_)
                    refine lv_iload_n hx hb dX4_changed_201 rfl (lv_at hl 8 rfl) ?_
                    by_cases e202_0 : how = 0
                    · skip
                      refine lv_tableIn (off := 42) (tgt := 244) hx hb dX4_changed_202 (by rw [e202_0]; decide) (by rw [e202_0]; decide) (by rw [e202_0]; rfl) (by decide) ?_
                      refine lv_aload_n hx hb dX4_changed_244 rfl (lv_at hl 6 rfl) ?_
                      refine lv_iload hx hb dX4_changed_245 (lv_at hl 2 rfl) ?_
                      refine lv_aload_n hx hb dX4_changed_247 rfl (lv_at hl 7 rfl) ?_
                      refine lv_iload hx hb dX4_changed_248 (lv_at hl 2 rfl) ?_
                      refine q_zald hx hb hK ha i (rfl) (by omega) (by decide) dX4_changed_250 ?_
                      refine W.eq (g2 := F0 m 251 ls [.int (nI 0), .int (nI i), .ref b1]) rfl ?_
                      refine lv_if_ne (tgt := 258) hx hb dX4_changed_251 (by decide) (fun c251 => ?_) (fun c251 => ?_)
                      · skip
                        have c251 : ¬ (0 = 0) := fun q9 => c251 ((nc_eq (a := 0) (b := 0) (by omega) (by omega)).mpr q9)
                        omega
                      · skip
                        have c251 : 0 = 0 := (nc_eq (a := 0) (b := 0) (by omega) (by omega)).mp c251
                        refine lv_iconst (v := nI 1) hx hb dX4_changed_254 (by decide) ?_
                        refine lv_goto (tgt := 259) hx hb dX4_changed_255 (by decide) ?_
                        refine q_zast hx hb hK nb1 i (rfl) (by omega) (by decide) (rfl) hS (hA _ (by omega)) dX4_changed_259 (fun H1 locs1 hw9 hz oq hS => ?_)
                        replace ha := ha.ne oq (by omega)
                        have nb1 := hw9
                        refine lv_goto (tgt := 385) hx hb dX4_changed_260 (by decide) ?_
                        refine lv_iinc (v := nI (i + 1)) (lv' := [(6, .int (nI (i + 1))), (8, .int (nI 1)), (7, .int (nI 0)), (5, .int (nI 201)), (4, .int (nI 201)), (3, .int (nI 0)), (2, .ref b1), (0, .ref a), (1, .int (nI how))]) hx hb dX4_changed_385 hl (k := 2) rfl (inc_1 _) (by decide) rfl (fun ls hl => ?_)
                        refine lv_goto (tgt := 126) hx hb dX4_changed_388 (by decide) ?_
                        have e6 : (eN (T 0) 201 (upd (rwI (chC how) i) i (nI 1))) = (eN (T 0) 201 (rwI (chC how) (i + 1))) := by first | (rw [rwI_c (v := chC how) (show nI 1 = chC how from (if_pos (by omega)).symm)]; done) | (rw [rwI_c (v := chC how) (show nI 0 = chC how from (if_neg (by omega)).symm)]; done)
                        exact hnext _ _ _ ⟨hS, lv_sub hl [0, 3, 4, 5, 6, 7, 8] rfl, ha, (by rw [← e6]; exact nb1)⟩
                    by_cases e202_1 : how = 1
                    · skip
                      refine lv_tableIn (off := 61) (tgt := 263) hx hb dX4_changed_202 (by rw [e202_1]; decide) (by rw [e202_1]; decide) (by rw [e202_1]; rfl) (by decide) ?_
                      refine lv_aload_n hx hb dX4_changed_263 rfl (lv_at hl 6 rfl) ?_
                      refine lv_iload hx hb dX4_changed_264 (lv_at hl 2 rfl) ?_
                      refine lv_aload_n hx hb dX4_changed_266 rfl (lv_at hl 7 rfl) ?_
                      refine lv_iload hx hb dX4_changed_267 (lv_at hl 2 rfl) ?_
                      refine q_zald hx hb hK ha i (rfl) (by omega) (by decide) dX4_changed_269 ?_
                      refine W.eq (g2 := F0 m 270 ls [.int (nI 0), .int (nI i), .ref b1]) rfl ?_
                      refine lv_if_eq (tgt := 290) hx hb dX4_changed_270 (by decide) (fun c270 => ?_) (fun c270 => ?_)
                      · skip
                        have c270 : 0 = 0 := (nc_eq (a := 0) (b := 0) (by omega) (by omega)).mp c270
                        refine lv_iconst (v := nI 0) hx hb dX4_changed_290 (by decide) ?_
                        refine q_zast hx hb hK nb1 i (rfl) (by omega) (by decide) (rfl) hS (hA _ (by omega)) dX4_changed_291 (fun H1 locs1 hw9 hz oq hS => ?_)
                        replace ha := ha.ne oq (by omega)
                        have nb1 := hw9
                        refine lv_goto (tgt := 385) hx hb dX4_changed_292 (by decide) ?_
                        refine lv_iinc (v := nI (i + 1)) (lv' := [(6, .int (nI (i + 1))), (8, .int (nI 1)), (7, .int (nI 0)), (5, .int (nI 201)), (4, .int (nI 201)), (3, .int (nI 0)), (2, .ref b1), (0, .ref a), (1, .int (nI how))]) hx hb dX4_changed_385 hl (k := 2) rfl (inc_1 _) (by decide) rfl (fun ls hl => ?_)
                        refine lv_goto (tgt := 126) hx hb dX4_changed_388 (by decide) ?_
                        have e7 : (eN (T 0) 201 (upd (rwI (chC how) i) i (nI 0))) = (eN (T 0) 201 (rwI (chC how) (i + 1))) := by first | (rw [rwI_c (v := chC how) (show nI 1 = chC how from (if_pos (by omega)).symm)]; done) | (rw [rwI_c (v := chC how) (show nI 0 = chC how from (if_neg (by omega)).symm)]; done)
                        exact hnext _ _ _ ⟨hS, lv_sub hl [0, 3, 4, 5, 6, 7, 8] rfl, ha, (by rw [← e7]; exact nb1)⟩
                      · skip
                        have c270 : ¬ (0 = 0) := fun q9 => c270 ((nc_eq (a := 0) (b := 0) (by omega) (by omega)).mpr q9)
                        omega
                    by_cases e202_2 : how = 2
                    · skip
                      refine lv_tableIn (off := 93) (tgt := 295) hx hb dX4_changed_202 (by rw [e202_2]; decide) (by rw [e202_2]; decide) (by rw [e202_2]; rfl) (by decide) ?_
                      refine lv_aload_n hx hb dX4_changed_295 rfl (lv_at hl 6 rfl) ?_
                      refine lv_iload hx hb dX4_changed_296 (lv_at hl 2 rfl) ?_
                      refine lv_aload_n hx hb dX4_changed_298 rfl (lv_at hl 7 rfl) ?_
                      refine lv_iload hx hb dX4_changed_299 (lv_at hl 2 rfl) ?_
                      refine q_zald hx hb hK ha i (rfl) (by omega) (by decide) dX4_changed_301 ?_
                      refine W.eq (g2 := F0 m 302 ls [.int (nI 0), .int (nI i), .ref b1]) rfl ?_
                      refine lv_if_ne (tgt := 317) hx hb dX4_changed_302 (by decide) (fun c302 => ?_) (fun c302 => ?_)
                      · skip
                        have c302 : ¬ (0 = 0) := fun q9 => c302 ((nc_eq (a := 0) (b := 0) (by omega) (by omega)).mpr q9)
                        omega
                      · skip
                        have c302 : 0 = 0 := (nc_eq (a := 0) (b := 0) (by omega) (by omega)).mp c302
                        refine lv_iload hx hb dX4_changed_305 (lv_at hl 2 rfl) ?_
                        refine lv_iconst (v := nI 2) hx hb dX4_changed_307 (by decide) ?_
                        refine lv_irem hx hb dX4_changed_308 (by decide) ?_
                        rw [pk_rem (a := i) (d := 2) (by omega) (by omega) (by omega)]
                        refine lv_if_ne (tgt := 321) hx hb dX4_changed_309 (by decide) (fun c309 => ?_) (fun c309 => ?_)
                        · skip
                          have c309 : ¬ (i % 2 = 0) := fun q9 => c309 ((nc_eq (a := i % 2) (b := 0) (by omega) (by omega)).mpr q9)
                          refine lv_iconst (v := nI 0) hx hb dX4_changed_321 (by decide) ?_
                          refine q_zast hx hb hK nb1 i (rfl) (by omega) (by decide) (rfl) hS (hA _ (by omega)) dX4_changed_322 (fun H1 locs1 hw9 hz oq hS => ?_)
                          replace ha := ha.ne oq (by omega)
                          have nb1 := hw9
                          refine lv_goto (tgt := 385) hx hb dX4_changed_323 (by decide) ?_
                          refine lv_iinc (v := nI (i + 1)) (lv' := [(6, .int (nI (i + 1))), (8, .int (nI 1)), (7, .int (nI 0)), (5, .int (nI 201)), (4, .int (nI 201)), (3, .int (nI 0)), (2, .ref b1), (0, .ref a), (1, .int (nI how))]) hx hb dX4_changed_385 hl (k := 2) rfl (inc_1 _) (by decide) rfl (fun ls hl => ?_)
                          refine lv_goto (tgt := 126) hx hb dX4_changed_388 (by decide) ?_
                          have e8 : (eN (T 0) 201 (upd (rwI (chC how) i) i (nI 0))) = (eN (T 0) 201 (rwI (chC how) (i + 1))) := by first | (rw [rwI_c (v := chC how) (show nI 1 = chC how from (if_pos (by omega)).symm)]; done) | (rw [rwI_c (v := chC how) (show nI 0 = chC how from (if_neg (by omega)).symm)]; done)
                          exact hnext _ _ _ ⟨hS, lv_sub hl [0, 3, 4, 5, 6, 7, 8] rfl, ha, (by rw [← e8]; exact nb1)⟩
                        · skip
                          have c309 : i % 2 = 0 := (nc_eq (a := i % 2) (b := 0) (by omega) (by omega)).mp c309
                          refine lv_iload hx hb dX4_changed_312 (lv_at hl 1 rfl) ?_
                          refine lv_if_eq (tgt := 321) hx hb dX4_changed_314 (by decide) (fun c314 => ?_) (fun c314 => ?_)
                          · skip
                            have c314 : 0 = 0 := (nc_eq (a := 0) (b := 0) (by omega) (by omega)).mp c314
                            refine lv_iconst (v := nI 0) hx hb dX4_changed_321 (by decide) ?_
                            refine q_zast hx hb hK nb1 i (rfl) (by omega) (by decide) (rfl) hS (hA _ (by omega)) dX4_changed_322 (fun H1 locs1 hw9 hz oq hS => ?_)
                            replace ha := ha.ne oq (by omega)
                            have nb1 := hw9
                            refine lv_goto (tgt := 385) hx hb dX4_changed_323 (by decide) ?_
                            refine lv_iinc (v := nI (i + 1)) (lv' := [(6, .int (nI (i + 1))), (8, .int (nI 1)), (7, .int (nI 0)), (5, .int (nI 201)), (4, .int (nI 201)), (3, .int (nI 0)), (2, .ref b1), (0, .ref a), (1, .int (nI how))]) hx hb dX4_changed_385 hl (k := 2) rfl (inc_1 _) (by decide) rfl (fun ls hl => ?_)
                            refine lv_goto (tgt := 126) hx hb dX4_changed_388 (by decide) ?_
                            have e9 : (eN (T 0) 201 (upd (rwI (chC how) i) i (nI 0))) = (eN (T 0) 201 (rwI (chC how) (i + 1))) := by first | (rw [rwI_c (v := chC how) (show nI 1 = chC how from (if_pos (by omega)).symm)]; done) | (rw [rwI_c (v := chC how) (show nI 0 = chC how from (if_neg (by omega)).symm)]; done)
                            exact hnext _ _ _ ⟨hS, lv_sub hl [0, 3, 4, 5, 6, 7, 8] rfl, ha, (by rw [← e9]; exact nb1)⟩
                          · skip
                            have c314 : ¬ (0 = 0) := fun q9 => c314 ((nc_eq (a := 0) (b := 0) (by omega) (by omega)).mpr q9)
                            omega
                    by_cases e202_3 : how = 3
                    · skip
                      refine lv_tableIn (off := 124) (tgt := 326) hx hb dX4_changed_202 (by rw [e202_3]; decide) (by rw [e202_3]; decide) (by rw [e202_3]; rfl) (by decide) ?_
                      refine lv_aload_n hx hb dX4_changed_326 rfl (lv_at hl 6 rfl) ?_
                      refine lv_iload hx hb dX4_changed_327 (lv_at hl 2 rfl) ?_
                      refine lv_aload_n hx hb dX4_changed_329 rfl (lv_at hl 7 rfl) ?_
                      refine lv_iload hx hb dX4_changed_330 (lv_at hl 2 rfl) ?_
                      refine vp_callSi (va_runS (As := [.ref a, .int (nI i)]) (rest := [.int (nI i), .ref b1]) ⟨hx, hb, hml, hown, hts⟩ (conX4_isAlone l D T a i (by omega)) (va_cwS 2 hts gX4_changed_X4_isAlone rfl rfl rfl (by decide +kernel) ⟨Nat.le_of_ble_eq_true rfl, Nat.le_of_ble_eq_true rfl⟩) (preS hK ha) rfl rfl hl.1 rfl (lv_room (Nat.le_of_ble_eq_true rfl)) dX4_changed_332 ⟨Nat.le_of_ble_eq_true rfl, Nat.le_of_ble_eq_true rfl⟩).run (fun r10 hr10 => ?_)
                      rw [hr10]
                      refine q_zast hx hb hK nb1 i (rfl) (by omega) (by decide) (rfl) hS (hA _ (by omega)) dX4_changed_335 (fun H1 locs1 hw9 hz oq hS => ?_)
                      replace ha := ha.ne oq (by omega)
                      have nb1 := hw9
                      refine lv_goto (tgt := 385) hx hb dX4_changed_336 (by decide) ?_
                      refine lv_iinc (v := nI (i + 1)) (lv' := [(6, .int (nI (i + 1))), (8, .int (nI 1)), (7, .int (nI 0)), (5, .int (nI 201)), (4, .int (nI 201)), (3, .int (nI 0)), (2, .ref b1), (0, .ref a), (1, .int (nI how))]) hx hb dX4_changed_385 hl (k := 2) rfl (inc_1 _) (by decide) rfl (fun ls hl => ?_)
                      refine lv_goto (tgt := 126) hx hb dX4_changed_388 (by decide) ?_
                      have e11 : (eN (T 0) 201 (upd (rwI (chC how) i) i (nI 0))) = (eN (T 0) 201 (rwI (chC how) (i + 1))) := by first | (rw [rwI_c (v := chC how) (show nI 1 = chC how from (if_pos (by omega)).symm)]; done) | (rw [rwI_c (v := chC how) (show nI 0 = chC how from (if_neg (by omega)).symm)]; done)
                      exact hnext _ _ _ ⟨hS, lv_sub hl [0, 3, 4, 5, 6, 7, 8] rfl, ha, (by rw [← e11]; exact nb1)⟩
                    by_cases e202_4 : how = 4
                    · skip
                      refine lv_tableIn (off := 137) (tgt := 339) hx hb dX4_changed_202 (by rw [e202_4]; decide) (by rw [e202_4]; decide) (by rw [e202_4]; rfl) (by decide) ?_
                      refine lv_aload_n hx hb dX4_changed_339 rfl (lv_at hl 6 rfl) ?_
                      refine lv_iload hx hb dX4_changed_340 (lv_at hl 2 rfl) ?_
                      refine lv_aload_n hx hb dX4_changed_342 rfl (lv_at hl 7 rfl) ?_
                      refine lv_sipush (v := nI 200) hx hb dX4_changed_343 (by decide) ?_
                      refine lv_iload hx hb dX4_changed_346 (lv_at hl 2 rfl) ?_
                      refine lv_isub hx hb dX4_changed_348 ?_
                      rw [pk_sub (a := 200) (b := i) (by omega)]
                      refine q_zald hx hb hK ha (200 - i) (rfl) (by omega) (by decide) dX4_changed_349 ?_
                      refine W.eq (g2 := F0 m 350 ls [.int (nI 0), .int (nI i), .ref b1]) rfl ?_
                      refine q_zast hx hb hK nb1 i (rfl) (by omega) (by decide) (rfl) hS (hA _ (by omega)) dX4_changed_350 (fun H1 locs1 hw9 hz oq hS => ?_)
                      replace ha := ha.ne oq (by omega)
                      have nb1 := hw9
                      refine lv_goto (tgt := 385) hx hb dX4_changed_351 (by decide) ?_
                      refine lv_iinc (v := nI (i + 1)) (lv' := [(6, .int (nI (i + 1))), (8, .int (nI 1)), (7, .int (nI 0)), (5, .int (nI 201)), (4, .int (nI 201)), (3, .int (nI 0)), (2, .ref b1), (0, .ref a), (1, .int (nI how))]) hx hb dX4_changed_385 hl (k := 2) rfl (inc_1 _) (by decide) rfl (fun ls hl => ?_)
                      refine lv_goto (tgt := 126) hx hb dX4_changed_388 (by decide) ?_
                      have e12 : (eN (T 0) 201 (upd (rwI (chC how) i) i (nI 0))) = (eN (T 0) 201 (rwI (chC how) (i + 1))) := by first | (rw [rwI_c (v := chC how) (show nI 1 = chC how from (if_pos (by omega)).symm)]; done) | (rw [rwI_c (v := chC how) (show nI 0 = chC how from (if_neg (by omega)).symm)]; done)
                      exact hnext _ _ _ ⟨hS, lv_sub hl [0, 3, 4, 5, 6, 7, 8] rfl, ha, (by rw [← e12]; exact nb1)⟩
                    by_cases e202_5 : how = 5
                    · skip
                      refine lv_tableIn (off := 152) (tgt := 354) hx hb dX4_changed_202 (by rw [e202_5]; decide) (by rw [e202_5]; decide) (by rw [e202_5]; rfl) (by decide) ?_
                      refine lv_aload_n hx hb dX4_changed_354 rfl (lv_at hl 6 rfl) ?_
                      refine lv_iload hx hb dX4_changed_355 (lv_at hl 2 rfl) ?_
                      refine lv_iload hx hb dX4_changed_357 (lv_at hl 2 rfl) ?_
                      refine lv_iload hx hb dX4_changed_359 (lv_at hl 4 rfl) ?_
                      refine lv_icmp_lt (tgt := 375) hx hb dX4_changed_361 (by decide) (fun c361 => ?_) (fun c361 => ?_)
                      · skip
                        have c361 : i < 201 := (nc_lt (a := i) (b := 201) (by omega) (by omega)).mp c361
                        refine lv_iconst (v := nI 0) hx hb dX4_changed_375 (by decide) ?_
                        refine q_zast hx hb hK nb1 i (rfl) (by omega) (by decide) (rfl) hS (hA _ (by omega)) dX4_changed_376 (fun H1 locs1 hw9 hz oq hS => ?_)
                        replace ha := ha.ne oq (by omega)
                        have nb1 := hw9
                        refine lv_goto (tgt := 385) hx hb dX4_changed_377 (by decide) ?_
                        refine lv_iinc (v := nI (i + 1)) (lv' := [(6, .int (nI (i + 1))), (8, .int (nI 1)), (7, .int (nI 0)), (5, .int (nI 201)), (4, .int (nI 201)), (3, .int (nI 0)), (2, .ref b1), (0, .ref a), (1, .int (nI how))]) hx hb dX4_changed_385 hl (k := 2) rfl (inc_1 _) (by decide) rfl (fun ls hl => ?_)
                        refine lv_goto (tgt := 126) hx hb dX4_changed_388 (by decide) ?_
                        have e13 : (eN (T 0) 201 (upd (rwI (chC how) i) i (nI 0))) = (eN (T 0) 201 (rwI (chC how) (i + 1))) := by first | (rw [rwI_c (v := chC how) (show nI 1 = chC how from (if_pos (by omega)).symm)]; done) | (rw [rwI_c (v := chC how) (show nI 0 = chC how from (if_neg (by omega)).symm)]; done)
                        exact hnext _ _ _ ⟨hS, lv_sub hl [0, 3, 4, 5, 6, 7, 8] rfl, ha, (by rw [← e13]; exact nb1)⟩
                      · skip
                        have c361 : ¬ (i < 201) := fun q9 => c361 ((nc_lt (a := i) (b := 201) (by omega) (by omega)).mpr q9)
                        omega
                    by_cases e202_6 : how = 6
                    · skip
                      refine lv_tableIn (off := 152) (tgt := 354) hx hb dX4_changed_202 (by rw [e202_6]; decide) (by rw [e202_6]; decide) (by rw [e202_6]; rfl) (by decide) ?_
                      refine lv_aload_n hx hb dX4_changed_354 rfl (lv_at hl 6 rfl) ?_
                      refine lv_iload hx hb dX4_changed_355 (lv_at hl 2 rfl) ?_
                      refine lv_iload hx hb dX4_changed_357 (lv_at hl 2 rfl) ?_
                      refine lv_iload hx hb dX4_changed_359 (lv_at hl 4 rfl) ?_
                      refine lv_icmp_lt (tgt := 375) hx hb dX4_changed_361 (by decide) (fun c361 => ?_) (fun c361 => ?_)
                      · skip
                        have c361 : i < 201 := (nc_lt (a := i) (b := 201) (by omega) (by omega)).mp c361
                        refine lv_iconst (v := nI 0) hx hb dX4_changed_375 (by decide) ?_
                        refine q_zast hx hb hK nb1 i (rfl) (by omega) (by decide) (rfl) hS (hA _ (by omega)) dX4_changed_376 (fun H1 locs1 hw9 hz oq hS => ?_)
                        replace ha := ha.ne oq (by omega)
                        have nb1 := hw9
                        refine lv_goto (tgt := 385) hx hb dX4_changed_377 (by decide) ?_
                        refine lv_iinc (v := nI (i + 1)) (lv' := [(6, .int (nI (i + 1))), (8, .int (nI 1)), (7, .int (nI 0)), (5, .int (nI 201)), (4, .int (nI 201)), (3, .int (nI 0)), (2, .ref b1), (0, .ref a), (1, .int (nI how))]) hx hb dX4_changed_385 hl (k := 2) rfl (inc_1 _) (by decide) rfl (fun ls hl => ?_)
                        refine lv_goto (tgt := 126) hx hb dX4_changed_388 (by decide) ?_
                        have e14 : (eN (T 0) 201 (upd (rwI (chC how) i) i (nI 0))) = (eN (T 0) 201 (rwI (chC how) (i + 1))) := by first | (rw [rwI_c (v := chC how) (show nI 1 = chC how from (if_pos (by omega)).symm)]; done) | (rw [rwI_c (v := chC how) (show nI 0 = chC how from (if_neg (by omega)).symm)]; done)
                        exact hnext _ _ _ ⟨hS, lv_sub hl [0, 3, 4, 5, 6, 7, 8] rfl, ha, (by rw [← e14]; exact nb1)⟩
                      · skip
                        have c361 : ¬ (i < 201) := fun q9 => c361 ((nc_lt (a := i) (b := 201) (by omega) (by omega)).mpr q9)
                        omega
                    refine lv_tableOut (tgt := 380) hx hb dX4_changed_202 (Or.inr (by rw [nI_toInt (by omega)]; omega)) (by decide) ?_
                    refine lv_aload_n hx hb dX4_changed_380 rfl (lv_at hl 6 rfl) ?_
                    refine lv_iload hx hb dX4_changed_381 (lv_at hl 2 rfl) ?_
                    refine lv_iconst (v := nI 0) hx hb dX4_changed_383 (by decide) ?_
                    refine q_zast hx hb hK nb1 i (rfl) (by omega) (by decide) (rfl) hS (hA _ (by omega)) dX4_changed_384 (fun H1 locs1 hw9 hz oq hS => ?_)
                    replace ha := ha.ne oq (by omega)
                    have nb1 := hw9
                    refine lv_iinc (v := nI (i + 1)) (lv' := [(6, .int (nI (i + 1))), (8, .int (nI 1)), (7, .int (nI 0)), (5, .int (nI 201)), (4, .int (nI 201)), (3, .int (nI 0)), (2, .ref b1), (0, .ref a), (1, .int (nI how))]) hx hb dX4_changed_385 hl (k := 2) rfl (inc_1 _) (by decide) rfl (fun ls hl => ?_)
                    refine lv_goto (tgt := 126) hx hb dX4_changed_388 (by decide) ?_
                    have e15 : (eN (T 0) 201 (upd (rwI (chC how) i) i (nI 0))) = (eN (T 0) 201 (rwI (chC how) (i + 1))) := by first | (rw [rwI_c (v := chC how) (show nI 1 = chC how from (if_pos (by omega)).symm)]; done) | (rw [rwI_c (v := chC how) (show nI 0 = chC how from (if_neg (by omega)).symm)]; done)
                    exact hnext _ _ _ ⟨hS, lv_sub hl [0, 3, 4, 5, 6, 7, 8] rfl, ha, (by rw [← e15]; exact nb1)⟩
                  · skip
                    have c182 : ¬ (i = 200) := fun q9 => c182 ((nc_eq (a := i) (b := 200) (by omega) (by omega)).mpr q9)
                    refine lv_aload_n hx hb dX4_changed_185 rfl (lv_at hl 6 rfl) ?_
                    refine lv_iload hx hb dX4_changed_186 (lv_at hl 1 rfl) ?_
                    refine lv_iconst (v := nI 1) hx hb dX4_changed_188 (by decide) ?_
                    refine lv_iadd hx hb dX4_changed_189 ?_
                    rw [nI_add]
                    refine q_zald hx hb hK ha (i + 1) (rfl) (by omega) (by decide) dX4_changed_190 ?_
                    refine W.eq (g2 := F0 m 191 ls [.int (nI 0)]) rfl ?_
                    refine lv_if_eq (tgt := 198) hx hb dX4_changed_191 (by decide) (fun c191 => ?_) (fun c191 => ?_)
                    · skip
                      have c191 : 0 = 0 := (nc_eq (a := 0) (b := 0) (by omega) (by omega)).mp c191
                      refine lv_iconst (v := nI 0) hx hb dX4_changed_198 (by decide) ?_
                      refine lv_istore (lv' := [(8, .int (nI 0)), (7, .int (nI 0)), (6, .int (nI i)), (5, .int (nI 201)), (4, .int (nI 201)), (3, .int (nI 0)), (2, .ref b1), (0, .ref a), (1, .int (nI how))]) hx hb dX4_changed_199 hl (by decide) rfl (fun ls hl => ?_)
                      refine lv_iload_n hx hb dX4_changed_201 rfl (lv_at hl 8 rfl) ?_
                      by_cases e202_0 : how = 0
                      · skip
                        refine lv_tableIn (off := 42) (tgt := 244) hx hb dX4_changed_202 (by rw [e202_0]; decide) (by rw [e202_0]; decide) (by rw [e202_0]; rfl) (by decide) ?_
                        refine lv_aload_n hx hb dX4_changed_244 rfl (lv_at hl 6 rfl) ?_
                        refine lv_iload hx hb dX4_changed_245 (lv_at hl 2 rfl) ?_
                        refine lv_aload_n hx hb dX4_changed_247 rfl (lv_at hl 7 rfl) ?_
                        refine lv_iload hx hb dX4_changed_248 (lv_at hl 2 rfl) ?_
                        refine q_zald hx hb hK ha i (rfl) (by omega) (by decide) dX4_changed_250 ?_
                        refine W.eq (g2 := F0 m 251 ls [.int (nI 0), .int (nI i), .ref b1]) rfl ?_
                        refine lv_if_ne (tgt := 258) hx hb dX4_changed_251 (by decide) (fun c251 => ?_) (fun c251 => ?_)
                        · skip
                          have c251 : ¬ (0 = 0) := fun q9 => c251 ((nc_eq (a := 0) (b := 0) (by omega) (by omega)).mpr q9)
                          omega
                        · skip
                          have c251 : 0 = 0 := (nc_eq (a := 0) (b := 0) (by omega) (by omega)).mp c251
                          refine lv_iconst (v := nI 1) hx hb dX4_changed_254 (by decide) ?_
                          refine lv_goto (tgt := 259) hx hb dX4_changed_255 (by decide) ?_
                          refine q_zast hx hb hK nb1 i (rfl) (by omega) (by decide) (rfl) hS (hA _ (by omega)) dX4_changed_259 (fun H1 locs1 hw9 hz oq hS => ?_)
                          replace ha := ha.ne oq (by omega)
                          have nb1 := hw9
                          refine lv_goto (tgt := 385) hx hb dX4_changed_260 (by decide) ?_
                          refine lv_iinc (v := nI (i + 1)) (lv' := [(6, .int (nI (i + 1))), (8, .int (nI 0)), (7, .int (nI 0)), (5, .int (nI 201)), (4, .int (nI 201)), (3, .int (nI 0)), (2, .ref b1), (0, .ref a), (1, .int (nI how))]) hx hb dX4_changed_385 hl (k := 2) rfl (inc_1 _) (by decide) rfl (fun ls hl => ?_)
                          refine lv_goto (tgt := 126) hx hb dX4_changed_388 (by decide) ?_
                          have e16 : (eN (T 0) 201 (upd (rwI (chC how) i) i (nI 1))) = (eN (T 0) 201 (rwI (chC how) (i + 1))) := by first | (rw [rwI_c (v := chC how) (show nI 1 = chC how from (if_pos (by omega)).symm)]; done) | (rw [rwI_c (v := chC how) (show nI 0 = chC how from (if_neg (by omega)).symm)]; done)
                          exact hnext _ _ _ ⟨hS, lv_sub hl [0, 3, 4, 5, 6, 7, 8] rfl, ha, (by rw [← e16]; exact nb1)⟩
                      by_cases e202_1 : how = 1
                      · skip
                        refine lv_tableIn (off := 61) (tgt := 263) hx hb dX4_changed_202 (by rw [e202_1]; decide) (by rw [e202_1]; decide) (by rw [e202_1]; rfl) (by decide) ?_
                        refine lv_aload_n hx hb dX4_changed_263 rfl (lv_at hl 6 rfl) ?_
                        refine lv_iload hx hb dX4_changed_264 (lv_at hl 2 rfl) ?_
                        refine lv_aload_n hx hb dX4_changed_266 rfl (lv_at hl 7 rfl) ?_
                        refine lv_iload hx hb dX4_changed_267 (lv_at hl 2 rfl) ?_
                        refine q_zald hx hb hK ha i (rfl) (by omega) (by decide) dX4_changed_269 ?_
                        refine W.eq (g2 := F0 m 270 ls [.int (nI 0), .int (nI i), .ref b1]) rfl ?_
                        refine lv_if_eq (tgt := 290) hx hb dX4_changed_270 (by decide) (fun c270 => ?_) (fun c270 => ?_)
                        · skip
                          have c270 : 0 = 0 := (nc_eq (a := 0) (b := 0) (by omega) (by omega)).mp c270
                          refine lv_iconst (v := nI 0) hx hb dX4_changed_290 (by decide) ?_
                          refine q_zast hx hb hK nb1 i (rfl) (by omega) (by decide) (rfl) hS (hA _ (by omega)) dX4_changed_291 (fun H1 locs1 hw9 hz oq hS => ?_)
                          replace ha := ha.ne oq (by omega)
                          have nb1 := hw9
                          refine lv_goto (tgt := 385) hx hb dX4_changed_292 (by decide) ?_
                          refine lv_iinc (v := nI (i + 1)) (lv' := [(6, .int (nI (i + 1))), (8, .int (nI 0)), (7, .int (nI 0)), (5, .int (nI 201)), (4, .int (nI 201)), (3, .int (nI 0)), (2, .ref b1), (0, .ref a), (1, .int (nI how))]) hx hb dX4_changed_385 hl (k := 2) rfl (inc_1 _) (by decide) rfl (fun ls hl => ?_)
                          refine lv_goto (tgt := 126) hx hb dX4_changed_388 (by decide) ?_
                          have e17 : (eN (T 0) 201 (upd (rwI (chC how) i) i (nI 0))) = (eN (T 0) 201 (rwI (chC how) (i + 1))) := by first | (rw [rwI_c (v := chC how) (show nI 1 = chC how from (if_pos (by omega)).symm)]; done) | (rw [rwI_c (v := chC how) (show nI 0 = chC how from (if_neg (by omega)).symm)]; done)
                          exact hnext _ _ _ ⟨hS, lv_sub hl [0, 3, 4, 5, 6, 7, 8] rfl, ha, (by rw [← e17]; exact nb1)⟩
                        · skip
                          have c270 : ¬ (0 = 0) := fun q9 => c270 ((nc_eq (a := 0) (b := 0) (by omega) (by omega)).mpr q9)
                          omega
                      by_cases e202_2 : how = 2
                      · skip
                        refine lv_tableIn (off := 93) (tgt := 295) hx hb dX4_changed_202 (by rw [e202_2]; decide) (by rw [e202_2]; decide) (by rw [e202_2]; rfl) (by decide) ?_
                        refine lv_aload_n hx hb dX4_changed_295 rfl (lv_at hl 6 rfl) ?_
                        refine lv_iload hx hb dX4_changed_296 (lv_at hl 2 rfl) ?_
                        refine lv_aload_n hx hb dX4_changed_298 rfl (lv_at hl 7 rfl) ?_
                        refine lv_iload hx hb dX4_changed_299 (lv_at hl 2 rfl) ?_
                        refine q_zald hx hb hK ha i (rfl) (by omega) (by decide) dX4_changed_301 ?_
                        refine W.eq (g2 := F0 m 302 ls [.int (nI 0), .int (nI i), .ref b1]) rfl ?_
                        refine lv_if_ne (tgt := 317) hx hb dX4_changed_302 (by decide) (fun c302 => ?_) (fun c302 => ?_)
                        · skip
                          have c302 : ¬ (0 = 0) := fun q9 => c302 ((nc_eq (a := 0) (b := 0) (by omega) (by omega)).mpr q9)
                          omega
                        · skip
                          have c302 : 0 = 0 := (nc_eq (a := 0) (b := 0) (by omega) (by omega)).mp c302
                          refine lv_iload hx hb dX4_changed_305 (lv_at hl 2 rfl) ?_
                          refine lv_iconst (v := nI 2) hx hb dX4_changed_307 (by decide) ?_
                          refine lv_irem hx hb dX4_changed_308 (by decide) ?_
                          rw [pk_rem (a := i) (d := 2) (by omega) (by omega) (by omega)]
                          refine lv_if_ne (tgt := 321) hx hb dX4_changed_309 (by decide) (fun c309 => ?_) (fun c309 => ?_)
                          · skip
                            have c309 : ¬ (i % 2 = 0) := fun q9 => c309 ((nc_eq (a := i % 2) (b := 0) (by omega) (by omega)).mpr q9)
                            refine lv_iconst (v := nI 0) hx hb dX4_changed_321 (by decide) ?_
                            refine q_zast hx hb hK nb1 i (rfl) (by omega) (by decide) (rfl) hS (hA _ (by omega)) dX4_changed_322 (fun H1 locs1 hw9 hz oq hS => ?_)
                            replace ha := ha.ne oq (by omega)
                            have nb1 := hw9
                            refine lv_goto (tgt := 385) hx hb dX4_changed_323 (by decide) ?_
                            refine lv_iinc (v := nI (i + 1)) (lv' := [(6, .int (nI (i + 1))), (8, .int (nI 0)), (7, .int (nI 0)), (5, .int (nI 201)), (4, .int (nI 201)), (3, .int (nI 0)), (2, .ref b1), (0, .ref a), (1, .int (nI how))]) hx hb dX4_changed_385 hl (k := 2) rfl (inc_1 _) (by decide) rfl (fun ls hl => ?_)
                            refine lv_goto (tgt := 126) hx hb dX4_changed_388 (by decide) ?_
                            have e18 : (eN (T 0) 201 (upd (rwI (chC how) i) i (nI 0))) = (eN (T 0) 201 (rwI (chC how) (i + 1))) := by first | (rw [rwI_c (v := chC how) (show nI 1 = chC how from (if_pos (by omega)).symm)]; done) | (rw [rwI_c (v := chC how) (show nI 0 = chC how from (if_neg (by omega)).symm)]; done)
                            exact hnext _ _ _ ⟨hS, lv_sub hl [0, 3, 4, 5, 6, 7, 8] rfl, ha, (by rw [← e18]; exact nb1)⟩
                          · skip
                            have c309 : i % 2 = 0 := (nc_eq (a := i % 2) (b := 0) (by omega) (by omega)).mp c309
                            refine lv_iload hx hb dX4_changed_312 (lv_at hl 1 rfl) ?_
                            refine lv_if_eq (tgt := 321) hx hb dX4_changed_314 (by decide) (fun c314 => ?_) (fun c314 => ?_)
                            · skip
                              have c314 : 0 = 0 := (nc_eq (a := 0) (b := 0) (by omega) (by omega)).mp c314
                              refine lv_iconst (v := nI 0) hx hb dX4_changed_321 (by decide) ?_
                              refine q_zast hx hb hK nb1 i (rfl) (by omega) (by decide) (rfl) hS (hA _ (by omega)) dX4_changed_322 (fun H1 locs1 hw9 hz oq hS => ?_)
                              replace ha := ha.ne oq (by omega)
                              have nb1 := hw9
                              refine lv_goto (tgt := 385) hx hb dX4_changed_323 (by decide) ?_
                              refine lv_iinc (v := nI (i + 1)) (lv' := [(6, .int (nI (i + 1))), (8, .int (nI 0)), (7, .int (nI 0)), (5, .int (nI 201)), (4, .int (nI 201)), (3, .int (nI 0)), (2, .ref b1), (0, .ref a), (1, .int (nI how))]) hx hb dX4_changed_385 hl (k := 2) rfl (inc_1 _) (by decide) rfl (fun ls hl => ?_)
                              refine lv_goto (tgt := 126) hx hb dX4_changed_388 (by decide) ?_
                              have e19 : (eN (T 0) 201 (upd (rwI (chC how) i) i (nI 0))) = (eN (T 0) 201 (rwI (chC how) (i + 1))) := by first | (rw [rwI_c (v := chC how) (show nI 1 = chC how from (if_pos (by omega)).symm)]; done) | (rw [rwI_c (v := chC how) (show nI 0 = chC how from (if_neg (by omega)).symm)]; done)
                              exact hnext _ _ _ ⟨hS, lv_sub hl [0, 3, 4, 5, 6, 7, 8] rfl, ha, (by rw [← e19]; exact nb1)⟩
                            · skip
                              have c314 : ¬ (0 = 0) := fun q9 => c314 ((nc_eq (a := 0) (b := 0) (by omega) (by omega)).mpr q9)
                              omega
                      by_cases e202_3 : how = 3
                      · skip
                        refine lv_tableIn (off := 124) (tgt := 326) hx hb dX4_changed_202 (by rw [e202_3]; decide) (by rw [e202_3]; decide) (by rw [e202_3]; rfl) (by decide) ?_
                        refine lv_aload_n hx hb dX4_changed_326 rfl (lv_at hl 6 rfl) ?_
                        refine lv_iload hx hb dX4_changed_327 (lv_at hl 2 rfl) ?_
                        refine lv_aload_n hx hb dX4_changed_329 rfl (lv_at hl 7 rfl) ?_
                        refine lv_iload hx hb dX4_changed_330 (lv_at hl 2 rfl) ?_
                        refine vp_callSi (va_runS (As := [.ref a, .int (nI i)]) (rest := [.int (nI i), .ref b1]) ⟨hx, hb, hml, hown, hts⟩ (conX4_isAlone l D T a i (by omega)) (va_cwS 2 hts gX4_changed_X4_isAlone rfl rfl rfl (by decide +kernel) ⟨Nat.le_of_ble_eq_true rfl, Nat.le_of_ble_eq_true rfl⟩) (preS hK ha) rfl rfl hl.1 rfl (lv_room (Nat.le_of_ble_eq_true rfl)) dX4_changed_332 ⟨Nat.le_of_ble_eq_true rfl, Nat.le_of_ble_eq_true rfl⟩).run (fun r20 hr20 => ?_)
                        rw [hr20]
                        refine q_zast hx hb hK nb1 i (rfl) (by omega) (by decide) (rfl) hS (hA _ (by omega)) dX4_changed_335 (fun H1 locs1 hw9 hz oq hS => ?_)
                        replace ha := ha.ne oq (by omega)
                        have nb1 := hw9
                        refine lv_goto (tgt := 385) hx hb dX4_changed_336 (by decide) ?_
                        refine lv_iinc (v := nI (i + 1)) (lv' := [(6, .int (nI (i + 1))), (8, .int (nI 0)), (7, .int (nI 0)), (5, .int (nI 201)), (4, .int (nI 201)), (3, .int (nI 0)), (2, .ref b1), (0, .ref a), (1, .int (nI how))]) hx hb dX4_changed_385 hl (k := 2) rfl (inc_1 _) (by decide) rfl (fun ls hl => ?_)
                        refine lv_goto (tgt := 126) hx hb dX4_changed_388 (by decide) ?_
                        have e21 : (eN (T 0) 201 (upd (rwI (chC how) i) i (nI 0))) = (eN (T 0) 201 (rwI (chC how) (i + 1))) := by first | (rw [rwI_c (v := chC how) (show nI 1 = chC how from (if_pos (by omega)).symm)]; done) | (rw [rwI_c (v := chC how) (show nI 0 = chC how from (if_neg (by omega)).symm)]; done)
                        exact hnext _ _ _ ⟨hS, lv_sub hl [0, 3, 4, 5, 6, 7, 8] rfl, ha, (by rw [← e21]; exact nb1)⟩
                      by_cases e202_4 : how = 4
                      · skip
                        refine lv_tableIn (off := 137) (tgt := 339) hx hb dX4_changed_202 (by rw [e202_4]; decide) (by rw [e202_4]; decide) (by rw [e202_4]; rfl) (by decide) ?_
                        refine lv_aload_n hx hb dX4_changed_339 rfl (lv_at hl 6 rfl) ?_
                        refine lv_iload hx hb dX4_changed_340 (lv_at hl 2 rfl) ?_
                        refine lv_aload_n hx hb dX4_changed_342 rfl (lv_at hl 7 rfl) ?_
                        refine lv_sipush (v := nI 200) hx hb dX4_changed_343 (by decide) ?_
                        refine lv_iload hx hb dX4_changed_346 (lv_at hl 2 rfl) ?_
                        refine lv_isub hx hb dX4_changed_348 ?_
                        rw [pk_sub (a := 200) (b := i) (by omega)]
                        refine q_zald hx hb hK ha (200 - i) (rfl) (by omega) (by decide) dX4_changed_349 ?_
                        refine W.eq (g2 := F0 m 350 ls [.int (nI 0), .int (nI i), .ref b1]) rfl ?_
                        refine q_zast hx hb hK nb1 i (rfl) (by omega) (by decide) (rfl) hS (hA _ (by omega)) dX4_changed_350 (fun H1 locs1 hw9 hz oq hS => ?_)
                        replace ha := ha.ne oq (by omega)
                        have nb1 := hw9
                        refine lv_goto (tgt := 385) hx hb dX4_changed_351 (by decide) ?_
                        refine lv_iinc (v := nI (i + 1)) (lv' := [(6, .int (nI (i + 1))), (8, .int (nI 0)), (7, .int (nI 0)), (5, .int (nI 201)), (4, .int (nI 201)), (3, .int (nI 0)), (2, .ref b1), (0, .ref a), (1, .int (nI how))]) hx hb dX4_changed_385 hl (k := 2) rfl (inc_1 _) (by decide) rfl (fun ls hl => ?_)
                        refine lv_goto (tgt := 126) hx hb dX4_changed_388 (by decide) ?_
                        have e22 : (eN (T 0) 201 (upd (rwI (chC how) i) i (nI 0))) = (eN (T 0) 201 (rwI (chC how) (i + 1))) := by first | (rw [rwI_c (v := chC how) (show nI 1 = chC how from (if_pos (by omega)).symm)]; done) | (rw [rwI_c (v := chC how) (show nI 0 = chC how from (if_neg (by omega)).symm)]; done)
                        exact hnext _ _ _ ⟨hS, lv_sub hl [0, 3, 4, 5, 6, 7, 8] rfl, ha, (by rw [← e22]; exact nb1)⟩
                      by_cases e202_5 : how = 5
                      · skip
                        refine lv_tableIn (off := 152) (tgt := 354) hx hb dX4_changed_202 (by rw [e202_5]; decide) (by rw [e202_5]; decide) (by rw [e202_5]; rfl) (by decide) ?_
                        refine lv_aload_n hx hb dX4_changed_354 rfl (lv_at hl 6 rfl) ?_
                        refine lv_iload hx hb dX4_changed_355 (lv_at hl 2 rfl) ?_
                        refine lv_iload hx hb dX4_changed_357 (lv_at hl 2 rfl) ?_
                        refine lv_iload hx hb dX4_changed_359 (lv_at hl 4 rfl) ?_
                        refine lv_icmp_lt (tgt := 375) hx hb dX4_changed_361 (by decide) (fun c361 => ?_) (fun c361 => ?_)
                        · skip
                          have c361 : i < 201 := (nc_lt (a := i) (b := 201) (by omega) (by omega)).mp c361
                          refine lv_iconst (v := nI 0) hx hb dX4_changed_375 (by decide) ?_
                          refine q_zast hx hb hK nb1 i (rfl) (by omega) (by decide) (rfl) hS (hA _ (by omega)) dX4_changed_376 (fun H1 locs1 hw9 hz oq hS => ?_)
                          replace ha := ha.ne oq (by omega)
                          have nb1 := hw9
                          refine lv_goto (tgt := 385) hx hb dX4_changed_377 (by decide) ?_
                          refine lv_iinc (v := nI (i + 1)) (lv' := [(6, .int (nI (i + 1))), (8, .int (nI 0)), (7, .int (nI 0)), (5, .int (nI 201)), (4, .int (nI 201)), (3, .int (nI 0)), (2, .ref b1), (0, .ref a), (1, .int (nI how))]) hx hb dX4_changed_385 hl (k := 2) rfl (inc_1 _) (by decide) rfl (fun ls hl => ?_)
                          refine lv_goto (tgt := 126) hx hb dX4_changed_388 (by decide) ?_
                          have e23 : (eN (T 0) 201 (upd (rwI (chC how) i) i (nI 0))) = (eN (T 0) 201 (rwI (chC how) (i + 1))) := by first | (rw [rwI_c (v := chC how) (show nI 1 = chC how from (if_pos (by omega)).symm)]; done) | (rw [rwI_c (v := chC how) (show nI 0 = chC how from (if_neg (by omega)).symm)]; done)
                          exact hnext _ _ _ ⟨hS, lv_sub hl [0, 3, 4, 5, 6, 7, 8] rfl, ha, (by rw [← e23]; exact nb1)⟩
                        · skip
                          have c361 : ¬ (i < 201) := fun q9 => c361 ((nc_lt (a := i) (b := 201) (by omega) (by omega)).mpr q9)
                          omega
                      by_cases e202_6 : how = 6
                      · skip
                        refine lv_tableIn (off := 152) (tgt := 354) hx hb dX4_changed_202 (by rw [e202_6]; decide) (by rw [e202_6]; decide) (by rw [e202_6]; rfl) (by decide) ?_
                        refine lv_aload_n hx hb dX4_changed_354 rfl (lv_at hl 6 rfl) ?_
                        refine lv_iload hx hb dX4_changed_355 (lv_at hl 2 rfl) ?_
                        refine lv_iload hx hb dX4_changed_357 (lv_at hl 2 rfl) ?_
                        refine lv_iload hx hb dX4_changed_359 (lv_at hl 4 rfl) ?_
                        refine lv_icmp_lt (tgt := 375) hx hb dX4_changed_361 (by decide) (fun c361 => ?_) (fun c361 => ?_)
                        · skip
                          have c361 : i < 201 := (nc_lt (a := i) (b := 201) (by omega) (by omega)).mp c361
                          refine lv_iconst (v := nI 0) hx hb dX4_changed_375 (by decide) ?_
                          refine q_zast hx hb hK nb1 i (rfl) (by omega) (by decide) (rfl) hS (hA _ (by omega)) dX4_changed_376 (fun H1 locs1 hw9 hz oq hS => ?_)
                          replace ha := ha.ne oq (by omega)
                          have nb1 := hw9
                          refine lv_goto (tgt := 385) hx hb dX4_changed_377 (by decide) ?_
                          refine lv_iinc (v := nI (i + 1)) (lv' := [(6, .int (nI (i + 1))), (8, .int (nI 0)), (7, .int (nI 0)), (5, .int (nI 201)), (4, .int (nI 201)), (3, .int (nI 0)), (2, .ref b1), (0, .ref a), (1, .int (nI how))]) hx hb dX4_changed_385 hl (k := 2) rfl (inc_1 _) (by decide) rfl (fun ls hl => ?_)
                          refine lv_goto (tgt := 126) hx hb dX4_changed_388 (by decide) ?_
                          have e24 : (eN (T 0) 201 (upd (rwI (chC how) i) i (nI 0))) = (eN (T 0) 201 (rwI (chC how) (i + 1))) := by first | (rw [rwI_c (v := chC how) (show nI 1 = chC how from (if_pos (by omega)).symm)]; done) | (rw [rwI_c (v := chC how) (show nI 0 = chC how from (if_neg (by omega)).symm)]; done)
                          exact hnext _ _ _ ⟨hS, lv_sub hl [0, 3, 4, 5, 6, 7, 8] rfl, ha, (by rw [← e24]; exact nb1)⟩
                        · skip
                          have c361 : ¬ (i < 201) := fun q9 => c361 ((nc_lt (a := i) (b := 201) (by omega) (by omega)).mpr q9)
                          omega
                      refine lv_tableOut (tgt := 380) hx hb dX4_changed_202 (Or.inr (by rw [nI_toInt (by omega)]; omega)) (by decide) ?_
                      refine lv_aload_n hx hb dX4_changed_380 rfl (lv_at hl 6 rfl) ?_
                      refine lv_iload hx hb dX4_changed_381 (lv_at hl 2 rfl) ?_
                      refine lv_iconst (v := nI 0) hx hb dX4_changed_383 (by decide) ?_
                      refine q_zast hx hb hK nb1 i (rfl) (by omega) (by decide) (rfl) hS (hA _ (by omega)) dX4_changed_384 (fun H1 locs1 hw9 hz oq hS => ?_)
                      replace ha := ha.ne oq (by omega)
                      have nb1 := hw9
                      refine lv_iinc (v := nI (i + 1)) (lv' := [(6, .int (nI (i + 1))), (8, .int (nI 0)), (7, .int (nI 0)), (5, .int (nI 201)), (4, .int (nI 201)), (3, .int (nI 0)), (2, .ref b1), (0, .ref a), (1, .int (nI how))]) hx hb dX4_changed_385 hl (k := 2) rfl (inc_1 _) (by decide) rfl (fun ls hl => ?_)
                      refine lv_goto (tgt := 126) hx hb dX4_changed_388 (by decide) ?_
                      have e25 : (eN (T 0) 201 (upd (rwI (chC how) i) i (nI 0))) = (eN (T 0) 201 (rwI (chC how) (i + 1))) := by first | (rw [rwI_c (v := chC how) (show nI 1 = chC how from (if_pos (by omega)).symm)]; done) | (rw [rwI_c (v := chC how) (show nI 0 = chC how from (if_neg (by omega)).symm)]; done)
                      exact hnext _ _ _ ⟨hS, lv_sub hl [0, 3, 4, 5, 6, 7, 8] rfl, ha, (by rw [← e25]; exact nb1)⟩
                    · skip
                      have c191 : ¬ (0 = 0) := fun q9 => c191 ((nc_eq (a := 0) (b := 0) (by omega) (by omega)).mpr q9)
                      omega
                · skip
                  have c165 : ¬ (i = 0) := fun q9 => c165 ((nc_eq (a := i) (b := 0) (by omega) (by omega)).mpr q9)
                  refine lv_aload_n hx hb dX4_changed_168 rfl (lv_at hl 6 rfl) ?_
                  refine lv_iload hx hb dX4_changed_169 (lv_at hl 1 rfl) ?_
                  refine lv_iconst (v := nI 1) hx hb dX4_changed_171 (by decide) ?_
                  refine lv_isub hx hb dX4_changed_172 ?_
                  rw [pk_sub (a := i) (b := 1) (by omega)]
                  refine q_zald hx hb hK ha (i - 1) (rfl) (by omega) (by decide) dX4_changed_173 ?_
                  refine W.eq (g2 := F0 m 174 ls [.int (nI 0)]) rfl ?_
                  refine lv_if_eq (tgt := 198) hx hb dX4_changed_174 (by decide) (fun c174 => ?_) (fun c174 => ?_)
                  · skip
                    have c174 : 0 = 0 := (nc_eq (a := 0) (b := 0) (by omega) (by omega)).mp c174
                    refine lv_iconst (v := nI 0) hx hb dX4_changed_198 (by decide) ?_
                    refine lv_istore (lv' := [(8, .int (nI 0)), (7, .int (nI 0)), (6, .int (nI i)), (5, .int (nI 201)), (4, .int (nI 201)), (3, .int (nI 0)), (2, .ref b1), (0, .ref a), (1, .int (nI how))]) hx hb dX4_changed_199 hl (by decide) rfl (fun ls hl => ?_)
                    refine lv_iload_n hx hb dX4_changed_201 rfl (lv_at hl 8 rfl) ?_
                    by_cases e202_0 : how = 0
                    · skip
                      refine lv_tableIn (off := 42) (tgt := 244) hx hb dX4_changed_202 (by rw [e202_0]; decide) (by rw [e202_0]; decide) (by rw [e202_0]; rfl) (by decide) ?_
                      refine lv_aload_n hx hb dX4_changed_244 rfl (lv_at hl 6 rfl) ?_
                      refine lv_iload hx hb dX4_changed_245 (lv_at hl 2 rfl) ?_
                      refine lv_aload_n hx hb dX4_changed_247 rfl (lv_at hl 7 rfl) ?_
                      refine lv_iload hx hb dX4_changed_248 (lv_at hl 2 rfl) ?_
                      refine q_zald hx hb hK ha i (rfl) (by omega) (by decide) dX4_changed_250 ?_
                      refine W.eq (g2 := F0 m 251 ls [.int (nI 0), .int (nI i), .ref b1]) rfl ?_
                      refine lv_if_ne (tgt := 258) hx hb dX4_changed_251 (by decide) (fun c251 => ?_) (fun c251 => ?_)
                      · skip
                        have c251 : ¬ (0 = 0) := fun q9 => c251 ((nc_eq (a := 0) (b := 0) (by omega) (by omega)).mpr q9)
                        omega
                      · skip
                        have c251 : 0 = 0 := (nc_eq (a := 0) (b := 0) (by omega) (by omega)).mp c251
                        refine lv_iconst (v := nI 1) hx hb dX4_changed_254 (by decide) ?_
                        refine lv_goto (tgt := 259) hx hb dX4_changed_255 (by decide) ?_
                        refine q_zast hx hb hK nb1 i (rfl) (by omega) (by decide) (rfl) hS (hA _ (by omega)) dX4_changed_259 (fun H1 locs1 hw9 hz oq hS => ?_)
                        replace ha := ha.ne oq (by omega)
                        have nb1 := hw9
                        refine lv_goto (tgt := 385) hx hb dX4_changed_260 (by decide) ?_
                        refine lv_iinc (v := nI (i + 1)) (lv' := [(6, .int (nI (i + 1))), (8, .int (nI 0)), (7, .int (nI 0)), (5, .int (nI 201)), (4, .int (nI 201)), (3, .int (nI 0)), (2, .ref b1), (0, .ref a), (1, .int (nI how))]) hx hb dX4_changed_385 hl (k := 2) rfl (inc_1 _) (by decide) rfl (fun ls hl => ?_)
                        refine lv_goto (tgt := 126) hx hb dX4_changed_388 (by decide) ?_
                        have e26 : (eN (T 0) 201 (upd (rwI (chC how) i) i (nI 1))) = (eN (T 0) 201 (rwI (chC how) (i + 1))) := by first | (rw [rwI_c (v := chC how) (show nI 1 = chC how from (if_pos (by omega)).symm)]; done) | (rw [rwI_c (v := chC how) (show nI 0 = chC how from (if_neg (by omega)).symm)]; done)
                        exact hnext _ _ _ ⟨hS, lv_sub hl [0, 3, 4, 5, 6, 7, 8] rfl, ha, (by rw [← e26]; exact nb1)⟩
                    by_cases e202_1 : how = 1
                    · skip
                      refine lv_tableIn (off := 61) (tgt := 263) hx hb dX4_changed_202 (by rw [e202_1]; decide) (by rw [e202_1]; decide) (by rw [e202_1]; rfl) (by decide) ?_
                      refine lv_aload_n hx hb dX4_changed_263 rfl (lv_at hl 6 rfl) ?_
                      refine lv_iload hx hb dX4_changed_264 (lv_at hl 2 rfl) ?_
                      refine lv_aload_n hx hb dX4_changed_266 rfl (lv_at hl 7 rfl) ?_
                      refine lv_iload hx hb dX4_changed_267 (lv_at hl 2 rfl) ?_
                      refine q_zald hx hb hK ha i (rfl) (by omega) (by decide) dX4_changed_269 ?_
                      refine W.eq (g2 := F0 m 270 ls [.int (nI 0), .int (nI i), .ref b1]) rfl ?_
                      refine lv_if_eq (tgt := 290) hx hb dX4_changed_270 (by decide) (fun c270 => ?_) (fun c270 => ?_)
                      · skip
                        have c270 : 0 = 0 := (nc_eq (a := 0) (b := 0) (by omega) (by omega)).mp c270
                        refine lv_iconst (v := nI 0) hx hb dX4_changed_290 (by decide) ?_
                        refine q_zast hx hb hK nb1 i (rfl) (by omega) (by decide) (rfl) hS (hA _ (by omega)) dX4_changed_291 (fun H1 locs1 hw9 hz oq hS => ?_)
                        replace ha := ha.ne oq (by omega)
                        have nb1 := hw9
                        refine lv_goto (tgt := 385) hx hb dX4_changed_292 (by decide) ?_
                        refine lv_iinc (v := nI (i + 1)) (lv' := [(6, .int (nI (i + 1))), (8, .int (nI 0)), (7, .int (nI 0)), (5, .int (nI 201)), (4, .int (nI 201)), (3, .int (nI 0)), (2, .ref b1), (0, .ref a), (1, .int (nI how))]) hx hb dX4_changed_385 hl (k := 2) rfl (inc_1 _) (by decide) rfl (fun ls hl => ?_)
                        refine lv_goto (tgt := 126) hx hb dX4_changed_388 (by decide) ?_
                        have e27 : (eN (T 0) 201 (upd (rwI (chC how) i) i (nI 0))) = (eN (T 0) 201 (rwI (chC how) (i + 1))) := by first | (rw [rwI_c (v := chC how) (show nI 1 = chC how from (if_pos (by omega)).symm)]; done) | (rw [rwI_c (v := chC how) (show nI 0 = chC how from (if_neg (by omega)).symm)]; done)
                        exact hnext _ _ _ ⟨hS, lv_sub hl [0, 3, 4, 5, 6, 7, 8] rfl, ha, (by rw [← e27]; exact nb1)⟩
                      · skip
                        have c270 : ¬ (0 = 0) := fun q9 => c270 ((nc_eq (a := 0) (b := 0) (by omega) (by omega)).mpr q9)
                        omega
                    by_cases e202_2 : how = 2
                    · skip
                      refine lv_tableIn (off := 93) (tgt := 295) hx hb dX4_changed_202 (by rw [e202_2]; decide) (by rw [e202_2]; decide) (by rw [e202_2]; rfl) (by decide) ?_
                      refine lv_aload_n hx hb dX4_changed_295 rfl (lv_at hl 6 rfl) ?_
                      refine lv_iload hx hb dX4_changed_296 (lv_at hl 2 rfl) ?_
                      refine lv_aload_n hx hb dX4_changed_298 rfl (lv_at hl 7 rfl) ?_
                      refine lv_iload hx hb dX4_changed_299 (lv_at hl 2 rfl) ?_
                      refine q_zald hx hb hK ha i (rfl) (by omega) (by decide) dX4_changed_301 ?_
                      refine W.eq (g2 := F0 m 302 ls [.int (nI 0), .int (nI i), .ref b1]) rfl ?_
                      refine lv_if_ne (tgt := 317) hx hb dX4_changed_302 (by decide) (fun c302 => ?_) (fun c302 => ?_)
                      · skip
                        have c302 : ¬ (0 = 0) := fun q9 => c302 ((nc_eq (a := 0) (b := 0) (by omega) (by omega)).mpr q9)
                        omega
                      · skip
                        have c302 : 0 = 0 := (nc_eq (a := 0) (b := 0) (by omega) (by omega)).mp c302
                        refine lv_iload hx hb dX4_changed_305 (lv_at hl 2 rfl) ?_
                        refine lv_iconst (v := nI 2) hx hb dX4_changed_307 (by decide) ?_
                        refine lv_irem hx hb dX4_changed_308 (by decide) ?_
                        rw [pk_rem (a := i) (d := 2) (by omega) (by omega) (by omega)]
                        refine lv_if_ne (tgt := 321) hx hb dX4_changed_309 (by decide) (fun c309 => ?_) (fun c309 => ?_)
                        · skip
                          have c309 : ¬ (i % 2 = 0) := fun q9 => c309 ((nc_eq (a := i % 2) (b := 0) (by omega) (by omega)).mpr q9)
                          refine lv_iconst (v := nI 0) hx hb dX4_changed_321 (by decide) ?_
                          refine q_zast hx hb hK nb1 i (rfl) (by omega) (by decide) (rfl) hS (hA _ (by omega)) dX4_changed_322 (fun H1 locs1 hw9 hz oq hS => ?_)
                          replace ha := ha.ne oq (by omega)
                          have nb1 := hw9
                          refine lv_goto (tgt := 385) hx hb dX4_changed_323 (by decide) ?_
                          refine lv_iinc (v := nI (i + 1)) (lv' := [(6, .int (nI (i + 1))), (8, .int (nI 0)), (7, .int (nI 0)), (5, .int (nI 201)), (4, .int (nI 201)), (3, .int (nI 0)), (2, .ref b1), (0, .ref a), (1, .int (nI how))]) hx hb dX4_changed_385 hl (k := 2) rfl (inc_1 _) (by decide) rfl (fun ls hl => ?_)
                          refine lv_goto (tgt := 126) hx hb dX4_changed_388 (by decide) ?_
                          have e28 : (eN (T 0) 201 (upd (rwI (chC how) i) i (nI 0))) = (eN (T 0) 201 (rwI (chC how) (i + 1))) := by first | (rw [rwI_c (v := chC how) (show nI 1 = chC how from (if_pos (by omega)).symm)]; done) | (rw [rwI_c (v := chC how) (show nI 0 = chC how from (if_neg (by omega)).symm)]; done)
                          exact hnext _ _ _ ⟨hS, lv_sub hl [0, 3, 4, 5, 6, 7, 8] rfl, ha, (by rw [← e28]; exact nb1)⟩
                        · skip
                          have c309 : i % 2 = 0 := (nc_eq (a := i % 2) (b := 0) (by omega) (by omega)).mp c309
                          refine lv_iload hx hb dX4_changed_312 (lv_at hl 1 rfl) ?_
                          refine lv_if_eq (tgt := 321) hx hb dX4_changed_314 (by decide) (fun c314 => ?_) (fun c314 => ?_)
                          · skip
                            have c314 : 0 = 0 := (nc_eq (a := 0) (b := 0) (by omega) (by omega)).mp c314
                            refine lv_iconst (v := nI 0) hx hb dX4_changed_321 (by decide) ?_
                            refine q_zast hx hb hK nb1 i (rfl) (by omega) (by decide) (rfl) hS (hA _ (by omega)) dX4_changed_322 (fun H1 locs1 hw9 hz oq hS => ?_)
                            replace ha := ha.ne oq (by omega)
                            have nb1 := hw9
                            refine lv_goto (tgt := 385) hx hb dX4_changed_323 (by decide) ?_
                            refine lv_iinc (v := nI (i + 1)) (lv' := [(6, .int (nI (i + 1))), (8, .int (nI 0)), (7, .int (nI 0)), (5, .int (nI 201)), (4, .int (nI 201)), (3, .int (nI 0)), (2, .ref b1), (0, .ref a), (1, .int (nI how))]) hx hb dX4_changed_385 hl (k := 2) rfl (inc_1 _) (by decide) rfl (fun ls hl => ?_)
                            refine lv_goto (tgt := 126) hx hb dX4_changed_388 (by decide) ?_
                            have e29 : (eN (T 0) 201 (upd (rwI (chC how) i) i (nI 0))) = (eN (T 0) 201 (rwI (chC how) (i + 1))) := by first | (rw [rwI_c (v := chC how) (show nI 1 = chC how from (if_pos (by omega)).symm)]; done) | (rw [rwI_c (v := chC how) (show nI 0 = chC how from (if_neg (by omega)).symm)]; done)
                            exact hnext _ _ _ ⟨hS, lv_sub hl [0, 3, 4, 5, 6, 7, 8] rfl, ha, (by rw [← e29]; exact nb1)⟩
                          · skip
                            have c314 : ¬ (0 = 0) := fun q9 => c314 ((nc_eq (a := 0) (b := 0) (by omega) (by omega)).mpr q9)
                            omega
                    by_cases e202_3 : how = 3
                    · skip
                      refine lv_tableIn (off := 124) (tgt := 326) hx hb dX4_changed_202 (by rw [e202_3]; decide) (by rw [e202_3]; decide) (by rw [e202_3]; rfl) (by decide) ?_
                      refine lv_aload_n hx hb dX4_changed_326 rfl (lv_at hl 6 rfl) ?_
                      refine lv_iload hx hb dX4_changed_327 (lv_at hl 2 rfl) ?_
                      refine lv_aload_n hx hb dX4_changed_329 rfl (lv_at hl 7 rfl) ?_
                      refine lv_iload hx hb dX4_changed_330 (lv_at hl 2 rfl) ?_
                      refine vp_callSi (va_runS (As := [.ref a, .int (nI i)]) (rest := [.int (nI i), .ref b1]) ⟨hx, hb, hml, hown, hts⟩ (conX4_isAlone l D T a i (by omega)) (va_cwS 2 hts gX4_changed_X4_isAlone rfl rfl rfl (by decide +kernel) ⟨Nat.le_of_ble_eq_true rfl, Nat.le_of_ble_eq_true rfl⟩) (preS hK ha) rfl rfl hl.1 rfl (lv_room (Nat.le_of_ble_eq_true rfl)) dX4_changed_332 ⟨Nat.le_of_ble_eq_true rfl, Nat.le_of_ble_eq_true rfl⟩).run (fun r30 hr30 => ?_)
                      rw [hr30]
                      refine q_zast hx hb hK nb1 i (rfl) (by omega) (by decide) (rfl) hS (hA _ (by omega)) dX4_changed_335 (fun H1 locs1 hw9 hz oq hS => ?_)
                      replace ha := ha.ne oq (by omega)
                      have nb1 := hw9
                      refine lv_goto (tgt := 385) hx hb dX4_changed_336 (by decide) ?_
                      refine lv_iinc (v := nI (i + 1)) (lv' := [(6, .int (nI (i + 1))), (8, .int (nI 0)), (7, .int (nI 0)), (5, .int (nI 201)), (4, .int (nI 201)), (3, .int (nI 0)), (2, .ref b1), (0, .ref a), (1, .int (nI how))]) hx hb dX4_changed_385 hl (k := 2) rfl (inc_1 _) (by decide) rfl (fun ls hl => ?_)
                      refine lv_goto (tgt := 126) hx hb dX4_changed_388 (by decide) ?_
                      have e31 : (eN (T 0) 201 (upd (rwI (chC how) i) i (nI 0))) = (eN (T 0) 201 (rwI (chC how) (i + 1))) := by first | (rw [rwI_c (v := chC how) (show nI 1 = chC how from (if_pos (by omega)).symm)]; done) | (rw [rwI_c (v := chC how) (show nI 0 = chC how from (if_neg (by omega)).symm)]; done)
                      exact hnext _ _ _ ⟨hS, lv_sub hl [0, 3, 4, 5, 6, 7, 8] rfl, ha, (by rw [← e31]; exact nb1)⟩
                    by_cases e202_4 : how = 4
                    · skip
                      refine lv_tableIn (off := 137) (tgt := 339) hx hb dX4_changed_202 (by rw [e202_4]; decide) (by rw [e202_4]; decide) (by rw [e202_4]; rfl) (by decide) ?_
                      refine lv_aload_n hx hb dX4_changed_339 rfl (lv_at hl 6 rfl) ?_
                      refine lv_iload hx hb dX4_changed_340 (lv_at hl 2 rfl) ?_
                      refine lv_aload_n hx hb dX4_changed_342 rfl (lv_at hl 7 rfl) ?_
                      refine lv_sipush (v := nI 200) hx hb dX4_changed_343 (by decide) ?_
                      refine lv_iload hx hb dX4_changed_346 (lv_at hl 2 rfl) ?_
                      refine lv_isub hx hb dX4_changed_348 ?_
                      rw [pk_sub (a := 200) (b := i) (by omega)]
                      refine q_zald hx hb hK ha (200 - i) (rfl) (by omega) (by decide) dX4_changed_349 ?_
                      refine W.eq (g2 := F0 m 350 ls [.int (nI 0), .int (nI i), .ref b1]) rfl ?_
                      refine q_zast hx hb hK nb1 i (rfl) (by omega) (by decide) (rfl) hS (hA _ (by omega)) dX4_changed_350 (fun H1 locs1 hw9 hz oq hS => ?_)
                      replace ha := ha.ne oq (by omega)
                      have nb1 := hw9
                      refine lv_goto (tgt := 385) hx hb dX4_changed_351 (by decide) ?_
                      refine lv_iinc (v := nI (i + 1)) (lv' := [(6, .int (nI (i + 1))), (8, .int (nI 0)), (7, .int (nI 0)), (5, .int (nI 201)), (4, .int (nI 201)), (3, .int (nI 0)), (2, .ref b1), (0, .ref a), (1, .int (nI how))]) hx hb dX4_changed_385 hl (k := 2) rfl (inc_1 _) (by decide) rfl (fun ls hl => ?_)
                      refine lv_goto (tgt := 126) hx hb dX4_changed_388 (by decide) ?_
                      have e32 : (eN (T 0) 201 (upd (rwI (chC how) i) i (nI 0))) = (eN (T 0) 201 (rwI (chC how) (i + 1))) := by first | (rw [rwI_c (v := chC how) (show nI 1 = chC how from (if_pos (by omega)).symm)]; done) | (rw [rwI_c (v := chC how) (show nI 0 = chC how from (if_neg (by omega)).symm)]; done)
                      exact hnext _ _ _ ⟨hS, lv_sub hl [0, 3, 4, 5, 6, 7, 8] rfl, ha, (by rw [← e32]; exact nb1)⟩
                    by_cases e202_5 : how = 5
                    · skip
                      refine lv_tableIn (off := 152) (tgt := 354) hx hb dX4_changed_202 (by rw [e202_5]; decide) (by rw [e202_5]; decide) (by rw [e202_5]; rfl) (by decide) ?_
                      refine lv_aload_n hx hb dX4_changed_354 rfl (lv_at hl 6 rfl) ?_
                      refine lv_iload hx hb dX4_changed_355 (lv_at hl 2 rfl) ?_
                      refine lv_iload hx hb dX4_changed_357 (lv_at hl 2 rfl) ?_
                      refine lv_iload hx hb dX4_changed_359 (lv_at hl 4 rfl) ?_
                      refine lv_icmp_lt (tgt := 375) hx hb dX4_changed_361 (by decide) (fun c361 => ?_) (fun c361 => ?_)
                      · skip
                        have c361 : i < 201 := (nc_lt (a := i) (b := 201) (by omega) (by omega)).mp c361
                        refine lv_iconst (v := nI 0) hx hb dX4_changed_375 (by decide) ?_
                        refine q_zast hx hb hK nb1 i (rfl) (by omega) (by decide) (rfl) hS (hA _ (by omega)) dX4_changed_376 (fun H1 locs1 hw9 hz oq hS => ?_)
                        replace ha := ha.ne oq (by omega)
                        have nb1 := hw9
                        refine lv_goto (tgt := 385) hx hb dX4_changed_377 (by decide) ?_
                        refine lv_iinc (v := nI (i + 1)) (lv' := [(6, .int (nI (i + 1))), (8, .int (nI 0)), (7, .int (nI 0)), (5, .int (nI 201)), (4, .int (nI 201)), (3, .int (nI 0)), (2, .ref b1), (0, .ref a), (1, .int (nI how))]) hx hb dX4_changed_385 hl (k := 2) rfl (inc_1 _) (by decide) rfl (fun ls hl => ?_)
                        refine lv_goto (tgt := 126) hx hb dX4_changed_388 (by decide) ?_
                        have e33 : (eN (T 0) 201 (upd (rwI (chC how) i) i (nI 0))) = (eN (T 0) 201 (rwI (chC how) (i + 1))) := by first | (rw [rwI_c (v := chC how) (show nI 1 = chC how from (if_pos (by omega)).symm)]; done) | (rw [rwI_c (v := chC how) (show nI 0 = chC how from (if_neg (by omega)).symm)]; done)
                        exact hnext _ _ _ ⟨hS, lv_sub hl [0, 3, 4, 5, 6, 7, 8] rfl, ha, (by rw [← e33]; exact nb1)⟩
                      · skip
                        have c361 : ¬ (i < 201) := fun q9 => c361 ((nc_lt (a := i) (b := 201) (by omega) (by omega)).mpr q9)
                        omega
                    by_cases e202_6 : how = 6
                    · skip
                      refine lv_tableIn (off := 152) (tgt := 354) hx hb dX4_changed_202 (by rw [e202_6]; decide) (by rw [e202_6]; decide) (by rw [e202_6]; rfl) (by decide) ?_
                      refine lv_aload_n hx hb dX4_changed_354 rfl (lv_at hl 6 rfl) ?_
                      refine lv_iload hx hb dX4_changed_355 (lv_at hl 2 rfl) ?_
                      refine lv_iload hx hb dX4_changed_357 (lv_at hl 2 rfl) ?_
                      refine lv_iload hx hb dX4_changed_359 (lv_at hl 4 rfl) ?_
                      refine lv_icmp_lt (tgt := 375) hx hb dX4_changed_361 (by decide) (fun c361 => ?_) (fun c361 => ?_)
                      · skip
                        have c361 : i < 201 := (nc_lt (a := i) (b := 201) (by omega) (by omega)).mp c361
                        refine lv_iconst (v := nI 0) hx hb dX4_changed_375 (by decide) ?_
                        refine q_zast hx hb hK nb1 i (rfl) (by omega) (by decide) (rfl) hS (hA _ (by omega)) dX4_changed_376 (fun H1 locs1 hw9 hz oq hS => ?_)
                        replace ha := ha.ne oq (by omega)
                        have nb1 := hw9
                        refine lv_goto (tgt := 385) hx hb dX4_changed_377 (by decide) ?_
                        refine lv_iinc (v := nI (i + 1)) (lv' := [(6, .int (nI (i + 1))), (8, .int (nI 0)), (7, .int (nI 0)), (5, .int (nI 201)), (4, .int (nI 201)), (3, .int (nI 0)), (2, .ref b1), (0, .ref a), (1, .int (nI how))]) hx hb dX4_changed_385 hl (k := 2) rfl (inc_1 _) (by decide) rfl (fun ls hl => ?_)
                        refine lv_goto (tgt := 126) hx hb dX4_changed_388 (by decide) ?_
                        have e34 : (eN (T 0) 201 (upd (rwI (chC how) i) i (nI 0))) = (eN (T 0) 201 (rwI (chC how) (i + 1))) := by first | (rw [rwI_c (v := chC how) (show nI 1 = chC how from (if_pos (by omega)).symm)]; done) | (rw [rwI_c (v := chC how) (show nI 0 = chC how from (if_neg (by omega)).symm)]; done)
                        exact hnext _ _ _ ⟨hS, lv_sub hl [0, 3, 4, 5, 6, 7, 8] rfl, ha, (by rw [← e34]; exact nb1)⟩
                      · skip
                        have c361 : ¬ (i < 201) := fun q9 => c361 ((nc_lt (a := i) (b := 201) (by omega) (by omega)).mpr q9)
                        omega
                    refine lv_tableOut (tgt := 380) hx hb dX4_changed_202 (Or.inr (by rw [nI_toInt (by omega)]; omega)) (by decide) ?_
                    refine lv_aload_n hx hb dX4_changed_380 rfl (lv_at hl 6 rfl) ?_
                    refine lv_iload hx hb dX4_changed_381 (lv_at hl 2 rfl) ?_
                    refine lv_iconst (v := nI 0) hx hb dX4_changed_383 (by decide) ?_
                    refine q_zast hx hb hK nb1 i (rfl) (by omega) (by decide) (rfl) hS (hA _ (by omega)) dX4_changed_384 (fun H1 locs1 hw9 hz oq hS => ?_)
                    replace ha := ha.ne oq (by omega)
                    have nb1 := hw9
                    refine lv_iinc (v := nI (i + 1)) (lv' := [(6, .int (nI (i + 1))), (8, .int (nI 0)), (7, .int (nI 0)), (5, .int (nI 201)), (4, .int (nI 201)), (3, .int (nI 0)), (2, .ref b1), (0, .ref a), (1, .int (nI how))]) hx hb dX4_changed_385 hl (k := 2) rfl (inc_1 _) (by decide) rfl (fun ls hl => ?_)
                    refine lv_goto (tgt := 126) hx hb dX4_changed_388 (by decide) ?_
                    have e35 : (eN (T 0) 201 (upd (rwI (chC how) i) i (nI 0))) = (eN (T 0) 201 (rwI (chC how) (i + 1))) := by first | (rw [rwI_c (v := chC how) (show nI 1 = chC how from (if_pos (by omega)).symm)]; done) | (rw [rwI_c (v := chC how) (show nI 0 = chC how from (if_neg (by omega)).symm)]; done)
                    exact hnext _ _ _ ⟨hS, lv_sub hl [0, 3, 4, 5, 6, 7, 8] rfl, ha, (by rw [← e35]; exact nb1)⟩
                  · skip
                    have c174 : ¬ (0 = 0) := fun q9 => c174 ((nc_eq (a := 0) (b := 0) (by omega) (by omega)).mpr q9)
                    omega
              · skip
                have c153 : ¬ (0 = 0) := fun q9 => c153 ((nc_eq (a := 0) (b := 0) (by omega) (by omega)).mpr q9)
                omega
        · skip
          intro H locs ls hin9
          obtain ⟨hS, hl, ha, nb1⟩ := hin9
          refine lv_iload hx hb dX4_changed_126 (lv_at hl 0 rfl) ?_
          refine lv_sipush (v := nI 201) hx hb dX4_changed_128 (by decide) ?_
          refine lv_icmp_ge (tgt := 391) hx hb dX4_changed_131 (by decide) (fun c131 => ?_) (fun c131 => ?_)
          · skip
            have c131 : 201 ≤ 201 := (nc_le (a := 201) (b := 201) (by omega) (by omega)).mp c131
            refine lv_aload_n hx hb dX4_changed_391 rfl (lv_at hl 4 rfl) ?_
            exact W.aret (v := .ref b1) hx hb hr (Or.inr ⟨_, rfl⟩) (Or.inr ⟨_, rfl⟩) (fun t ht _ => ⟨⟨(), b1, rfl, trivial, by dsimp only; rw [ht]; exact ⟨by omega, nb1.outN (fun k hk => if_pos hk)⟩⟩, hS.F ht⟩) hS.2.2 dX4_changed_392
          · skip
            have c131 : ¬ (201 ≤ 201) := fun q9 => c131 ((nc_le (a := 201) (b := 201) (by omega) (by omega)).mpr q9)
            omega
      · skip
        have c98 : how = 6 := (nc_eq (a := how) (b := 6) (by omega) (by omega)).mp c98
        refine lv_iload hx hb dX4_changed_101 (lv_at hl 0 rfl) ?_
        refine lv_iload hx hb dX4_changed_103 (lv_at hl 1 rfl) ?_
        refine lv_icmp_le (tgt := 123) hx hb dX4_changed_105 (by decide) (fun c105 => ?_) (fun c105 => ?_)
        · skip
          have c105 : 201 ≤ 201 := (nc_le (a := 201) (b := 201) (by omega) (by omega)).mp c105
          refine lv_iconst (v := nI 0) hx hb dX4_changed_123 (by decide) ?_
          refine lv_istore (lv' := [(6, .int (nI 0)), (5, .int (nI 201)), (4, .int (nI 201)), (3, .int (nI 0)), (2, .ref b1), (0, .ref a), (1, .int (nI how))]) hx hb dX4_changed_124 hl (by decide) rfl (fun ls hl => ?_)
          refine q_for (fun (i : Nat) (H : Heap) (locs : List Loc) (ls : Array Slot) => va_S A s.heap H locs ∧ lv_has ls 9 [(6, .int (nI i)), (5, .int (nI 201)), (4, .int (nI 201)), (3, .int (nI 0)), (2, .ref b1), (0, .ref a), (1, .int (nI how))] ∧ pAt D H a (eN (T 0) 201 zr0) ∧ pAt D H b1 (eN (T 0) 201 (rwI (chC how) i))) (N := 201) 0 (by omega) ?_ ?_ ?_
          · skip
            have e36 : (eN (T 0) 201 zr0) = (eN (T 0) 201 (rwI (chC how) 0)) := by (rw [rwI_0])
            exact ⟨hS, lv_sub hl [0, 1, 2, 3, 4, 5, 6] rfl, ha, (by rw [← e36]; exact nb1)⟩
          · skip
            intro i H locs ls hi9 hin9 hnext
            obtain ⟨hS, hl, ha, nb1⟩ := hin9
            refine lv_iload hx hb dX4_changed_126 (lv_at hl 0 rfl) ?_
            refine lv_sipush (v := nI 201) hx hb dX4_changed_128 (by decide) ?_
            refine lv_icmp_ge (tgt := 391) hx hb dX4_changed_131 (by decide) (fun c131 => ?_) (fun c131 => ?_)
            · skip
              have c131 : 201 ≤ i := (nc_le (a := 201) (b := i) (by omega) (by omega)).mp c131
              omega
            · skip
              have c131 : ¬ (201 ≤ i) := fun q9 => c131 ((nc_le (a := 201) (b := i) (by omega) (by omega)).mpr q9)
              refine lv_aload_n hx hb dX4_changed_134 rfl (lv_at hl 5 rfl) ?_
              refine lv_iload hx hb dX4_changed_135 (lv_at hl 0 rfl) ?_
              refine lv_iconst (v := nI 1) hx hb dX4_changed_137 (by decide) ?_
              refine lv_isub hx hb dX4_changed_138 ?_
              refine vp_callSi (va_runS (As := [.ref a, .int ((nI i) - (nI 1))]) (rest := []) ⟨hx, hb, hml, hown, hts⟩ (conX4_isAt l D T a ((nI i) - (nI 1))) (va_cwS 2 hts gX4_changed_X4_isAt rfl rfl rfl (by decide +kernel) ⟨Nat.le_of_ble_eq_true rfl, Nat.le_of_ble_eq_true rfl⟩) (preS hK ha) rfl rfl hl.1 rfl (lv_room (Nat.le_of_ble_eq_true rfl)) dX4_changed_139 ⟨Nat.le_of_ble_eq_true rfl, Nat.le_of_ble_eq_true rfl⟩).run (fun r37 hr37 => ?_)
              rw [hr37]
              refine lv_if_ne (tgt := 156) hx hb dX4_changed_142 (by decide) (fun c142 => ?_) (fun c142 => ?_)
              · skip
                have c142 : ¬ (0 = 0) := fun q9 => c142 ((nc_eq (a := 0) (b := 0) (by omega) (by omega)).mpr q9)
                omega
              · skip
                have c142 : 0 = 0 := (nc_eq (a := 0) (b := 0) (by omega) (by omega)).mp c142
                refine lv_aload_n hx hb dX4_changed_145 rfl (lv_at hl 5 rfl) ?_
                refine lv_iload hx hb dX4_changed_146 (lv_at hl 0 rfl) ?_
                refine lv_iconst (v := nI 1) hx hb dX4_changed_148 (by decide) ?_
                refine lv_iadd hx hb dX4_changed_149 ?_
                rw [nI_add]
                refine vp_callSi (va_runS (As := [.ref a, .int (nI (i + 1))]) (rest := []) ⟨hx, hb, hml, hown, hts⟩ (conX4_isAt l D T a (nI (i + 1))) (va_cwS 2 hts gX4_changed_X4_isAt rfl rfl rfl (by decide +kernel) ⟨Nat.le_of_ble_eq_true rfl, Nat.le_of_ble_eq_true rfl⟩) (preS hK ha) rfl rfl hl.1 rfl (lv_room (Nat.le_of_ble_eq_true rfl)) dX4_changed_150 ⟨Nat.le_of_ble_eq_true rfl, Nat.le_of_ble_eq_true rfl⟩).run (fun r38 hr38 => ?_)
                rw [hr38]
                refine lv_if_eq (tgt := 160) hx hb dX4_changed_153 (by decide) (fun c153 => ?_) (fun c153 => ?_)
                · skip
                  have c153 : 0 = 0 := (nc_eq (a := 0) (b := 0) (by omega) (by omega)).mp c153
                  refine lv_iconst (v := nI 0) hx hb dX4_changed_160 (by decide) ?_
                  refine lv_istore (lv' := [(7, .int (nI 0)), (6, .int (nI i)), (5, .int (nI 201)), (4, .int (nI 201)), (3, .int (nI 0)), (2, .ref b1), (0, .ref a), (1, .int (nI how))]) hx hb dX4_changed_161 hl (by decide) rfl (fun ls hl => ?_)
                  refine lv_iload hx hb dX4_changed_163 (lv_at hl 1 rfl) ?_
                  refine lv_if_eq (tgt := 177) hx hb dX4_changed_165 (by decide) (fun c165 => ?_) (fun c165 => ?_)
                  · skip
                    have c165 : i = 0 := (nc_eq (a := i) (b := 0) (by omega) (by omega)).mp c165
                    refine lv_iload hx hb dX4_changed_177 (lv_at hl 1 rfl) ?_
                    refine lv_sipush (v := nI 200) hx hb dX4_changed_179 (by decide) ?_
                    refine lv_icmp_eq (tgt := 194) hx hb dX4_changed_182 (by decide) (fun c182 => ?_) (fun c182 => ?_)
                    · skip
                      have c182 : i = 200 := (nc_eq (a := i) (b := 200) (by omega) (by omega)).mp c182
                      refine lv_iconst (v := nI 1) hx hb dX4_changed_194 (by decide) ?_
                      refine lv_goto (tgt := 199) hx hb dX4_changed_195 (by decide) ?_
                      refine lv_istore (lv' := [(8, .int (nI 1)), (7, .int (nI 0)), (6, .int (nI i)), (5, .int (nI 201)), (4, .int (nI 201)), (3, .int (nI 0)), (2, .ref b1), (0, .ref a), (1, .int (nI how))]) hx hb dX4_changed_199 hl (by decide) rfl (fun ls hl => ?_)
                      refine lv_iload_n hx hb dX4_changed_201 rfl (lv_at hl 8 rfl) ?_
                      by_cases e202_0 : how = 0
                      · skip
                        refine lv_tableIn (off := 42) (tgt := 244) hx hb dX4_changed_202 (by rw [e202_0]; decide) (by rw [e202_0]; decide) (by rw [e202_0]; rfl) (by decide) ?_
                        refine lv_aload_n hx hb dX4_changed_244 rfl (lv_at hl 6 rfl) ?_
                        refine lv_iload hx hb dX4_changed_245 (lv_at hl 2 rfl) ?_
                        refine lv_aload_n hx hb dX4_changed_247 rfl (lv_at hl 7 rfl) ?_
                        refine lv_iload hx hb dX4_changed_248 (lv_at hl 2 rfl) ?_
                        refine q_zald hx hb hK ha i (rfl) (by omega) (by decide) dX4_changed_250 ?_
                        refine W.eq (g2 := F0 m 251 ls [.int (nI 0), .int (nI i), .ref b1]) rfl ?_
                        refine lv_if_ne (tgt := 258) hx hb dX4_changed_251 (by decide) (fun c251 => ?_) (fun c251 => ?_)
                        · skip
                          have c251 : ¬ (0 = 0) := fun q9 => c251 ((nc_eq (a := 0) (b := 0) (by omega) (by omega)).mpr q9)
                          omega
                        · skip
                          have c251 : 0 = 0 := (nc_eq (a := 0) (b := 0) (by omega) (by omega)).mp c251
                          refine lv_iconst (v := nI 1) hx hb dX4_changed_254 (by decide) ?_
                          refine lv_goto (tgt := 259) hx hb dX4_changed_255 (by decide) ?_
                          refine q_zast hx hb hK nb1 i (rfl) (by omega) (by decide) (rfl) hS (hA _ (by omega)) dX4_changed_259 (fun H1 locs1 hw9 hz oq hS => ?_)
                          replace ha := ha.ne oq (by omega)
                          have nb1 := hw9
                          refine lv_goto (tgt := 385) hx hb dX4_changed_260 (by decide) ?_
                          refine lv_iinc (v := nI (i + 1)) (lv' := [(6, .int (nI (i + 1))), (8, .int (nI 1)), (7, .int (nI 0)), (5, .int (nI 201)), (4, .int (nI 201)), (3, .int (nI 0)), (2, .ref b1), (0, .ref a), (1, .int (nI how))]) hx hb dX4_changed_385 hl (k := 2) rfl (inc_1 _) (by decide) rfl (fun ls hl => ?_)
                          refine lv_goto (tgt := 126) hx hb dX4_changed_388 (by decide) ?_
                          have e39 : (eN (T 0) 201 (upd (rwI (chC how) i) i (nI 1))) = (eN (T 0) 201 (rwI (chC how) (i + 1))) := by first | (rw [rwI_c (v := chC how) (show nI 1 = chC how from (if_pos (by omega)).symm)]; done) | (rw [rwI_c (v := chC how) (show nI 0 = chC how from (if_neg (by omega)).symm)]; done)
                          exact hnext _ _ _ ⟨hS, lv_sub hl [0, 3, 4, 5, 6, 7, 8] rfl, ha, (by rw [← e39]; exact nb1)⟩
                      by_cases e202_1 : how = 1
                      · skip
                        refine lv_tableIn (off := 61) (tgt := 263) hx hb dX4_changed_202 (by rw [e202_1]; decide) (by rw [e202_1]; decide) (by rw [e202_1]; rfl) (by decide) ?_
                        refine lv_aload_n hx hb dX4_changed_263 rfl (lv_at hl 6 rfl) ?_
                        refine lv_iload hx hb dX4_changed_264 (lv_at hl 2 rfl) ?_
                        refine lv_aload_n hx hb dX4_changed_266 rfl (lv_at hl 7 rfl) ?_
                        refine lv_iload hx hb dX4_changed_267 (lv_at hl 2 rfl) ?_
                        refine q_zald hx hb hK ha i (rfl) (by omega) (by decide) dX4_changed_269 ?_
                        refine W.eq (g2 := F0 m 270 ls [.int (nI 0), .int (nI i), .ref b1]) rfl ?_
                        refine lv_if_eq (tgt := 290) hx hb dX4_changed_270 (by decide) (fun c270 => ?_) (fun c270 => ?_)
                        · skip
                          have c270 : 0 = 0 := (nc_eq (a := 0) (b := 0) (by omega) (by omega)).mp c270
                          refine lv_iconst (v := nI 0) hx hb dX4_changed_290 (by decide) ?_
                          refine q_zast hx hb hK nb1 i (rfl) (by omega) (by decide) (rfl) hS (hA _ (by omega)) dX4_changed_291 (fun H1 locs1 hw9 hz oq hS => ?_)
                          replace ha := ha.ne oq (by omega)
                          have nb1 := hw9
                          refine lv_goto (tgt := 385) hx hb dX4_changed_292 (by decide) ?_
                          refine lv_iinc (v := nI (i + 1)) (lv' := [(6, .int (nI (i + 1))), (8, .int (nI 1)), (7, .int (nI 0)), (5, .int (nI 201)), (4, .int (nI 201)), (3, .int (nI 0)), (2, .ref b1), (0, .ref a), (1, .int (nI how))]) hx hb dX4_changed_385 hl (k := 2) rfl (inc_1 _) (by decide) rfl (fun ls hl => ?_)
                          refine lv_goto (tgt := 126) hx hb dX4_changed_388 (by decide) ?_
                          have e40 : (eN (T 0) 201 (upd (rwI (chC how) i) i (nI 0))) = (eN (T 0) 201 (rwI (chC how) (i + 1))) := by first | (rw [rwI_c (v := chC how) (show nI 1 = chC how from (if_pos (by omega)).symm)]; done) | (rw [rwI_c (v := chC how) (show nI 0 = chC how from (if_neg (by omega)).symm)]; done)
                          exact hnext _ _ _ ⟨hS, lv_sub hl [0, 3, 4, 5, 6, 7, 8] rfl, ha, (by rw [← e40]; exact nb1)⟩
                        · skip
                          have c270 : ¬ (0 = 0) := fun q9 => c270 ((nc_eq (a := 0) (b := 0) (by omega) (by omega)).mpr q9)
                          omega
                      by_cases e202_2 : how = 2
                      · skip
                        refine lv_tableIn (off := 93) (tgt := 295) hx hb dX4_changed_202 (by rw [e202_2]; decide) (by rw [e202_2]; decide) (by rw [e202_2]; rfl) (by decide) ?_
                        refine lv_aload_n hx hb dX4_changed_295 rfl (lv_at hl 6 rfl) ?_
                        refine lv_iload hx hb dX4_changed_296 (lv_at hl 2 rfl) ?_
                        refine lv_aload_n hx hb dX4_changed_298 rfl (lv_at hl 7 rfl) ?_
                        refine lv_iload hx hb dX4_changed_299 (lv_at hl 2 rfl) ?_
                        refine q_zald hx hb hK ha i (rfl) (by omega) (by decide) dX4_changed_301 ?_
                        refine W.eq (g2 := F0 m 302 ls [.int (nI 0), .int (nI i), .ref b1]) rfl ?_
                        refine lv_if_ne (tgt := 317) hx hb dX4_changed_302 (by decide) (fun c302 => ?_) (fun c302 => ?_)
                        · skip
                          have c302 : ¬ (0 = 0) := fun q9 => c302 ((nc_eq (a := 0) (b := 0) (by omega) (by omega)).mpr q9)
                          omega
                        · skip
                          have c302 : 0 = 0 := (nc_eq (a := 0) (b := 0) (by omega) (by omega)).mp c302
                          refine lv_iload hx hb dX4_changed_305 (lv_at hl 2 rfl) ?_
                          refine lv_iconst (v := nI 2) hx hb dX4_changed_307 (by decide) ?_
                          refine lv_irem hx hb dX4_changed_308 (by decide) ?_
                          rw [pk_rem (a := i) (d := 2) (by omega) (by omega) (by omega)]
                          refine lv_if_ne (tgt := 321) hx hb dX4_changed_309 (by decide) (fun c309 => ?_) (fun c309 => ?_)
                          · skip
                            have c309 : ¬ (i % 2 = 0) := fun q9 => c309 ((nc_eq (a := i % 2) (b := 0) (by omega) (by omega)).mpr q9)
                            refine lv_iconst (v := nI 0) hx hb dX4_changed_321 (by decide) ?_
                            refine q_zast hx hb hK nb1 i (rfl) (by omega) (by decide) (rfl) hS (hA _ (by omega)) dX4_changed_322 (fun H1 locs1 hw9 hz oq hS => ?_)
                            replace ha := ha.ne oq (by omega)
                            have nb1 := hw9
                            refine lv_goto (tgt := 385) hx hb dX4_changed_323 (by decide) ?_
                            refine lv_iinc (v := nI (i + 1)) (lv' := [(6, .int (nI (i + 1))), (8, .int (nI 1)), (7, .int (nI 0)), (5, .int (nI 201)), (4, .int (nI 201)), (3, .int (nI 0)), (2, .ref b1), (0, .ref a), (1, .int (nI how))]) hx hb dX4_changed_385 hl (k := 2) rfl (inc_1 _) (by decide) rfl (fun ls hl => ?_)
                            refine lv_goto (tgt := 126) hx hb dX4_changed_388 (by decide) ?_
                            have e41 : (eN (T 0) 201 (upd (rwI (chC how) i) i (nI 0))) = (eN (T 0) 201 (rwI (chC how) (i + 1))) := by first | (rw [rwI_c (v := chC how) (show nI 1 = chC how from (if_pos (by omega)).symm)]; done) | (rw [rwI_c (v := chC how) (show nI 0 = chC how from (if_neg (by omega)).symm)]; done)
                            exact hnext _ _ _ ⟨hS, lv_sub hl [0, 3, 4, 5, 6, 7, 8] rfl, ha, (by rw [← e41]; exact nb1)⟩
                          · skip
                            have c309 : i % 2 = 0 := (nc_eq (a := i % 2) (b := 0) (by omega) (by omega)).mp c309
                            refine lv_iload hx hb dX4_changed_312 (lv_at hl 1 rfl) ?_
                            refine lv_if_eq (tgt := 321) hx hb dX4_changed_314 (by decide) (fun c314 => ?_) (fun c314 => ?_)
                            · skip
                              have c314 : 0 = 0 := (nc_eq (a := 0) (b := 0) (by omega) (by omega)).mp c314
                              refine lv_iconst (v := nI 0) hx hb dX4_changed_321 (by decide) ?_
                              refine q_zast hx hb hK nb1 i (rfl) (by omega) (by decide) (rfl) hS (hA _ (by omega)) dX4_changed_322 (fun H1 locs1 hw9 hz oq hS => ?_)
                              replace ha := ha.ne oq (by omega)
                              have nb1 := hw9
                              refine lv_goto (tgt := 385) hx hb dX4_changed_323 (by decide) ?_
                              refine lv_iinc (v := nI (i + 1)) (lv' := [(6, .int (nI (i + 1))), (8, .int (nI 1)), (7, .int (nI 0)), (5, .int (nI 201)), (4, .int (nI 201)), (3, .int (nI 0)), (2, .ref b1), (0, .ref a), (1, .int (nI how))]) hx hb dX4_changed_385 hl (k := 2) rfl (inc_1 _) (by decide) rfl (fun ls hl => ?_)
                              refine lv_goto (tgt := 126) hx hb dX4_changed_388 (by decide) ?_
                              have e42 : (eN (T 0) 201 (upd (rwI (chC how) i) i (nI 0))) = (eN (T 0) 201 (rwI (chC how) (i + 1))) := by first | (rw [rwI_c (v := chC how) (show nI 1 = chC how from (if_pos (by omega)).symm)]; done) | (rw [rwI_c (v := chC how) (show nI 0 = chC how from (if_neg (by omega)).symm)]; done)
                              exact hnext _ _ _ ⟨hS, lv_sub hl [0, 3, 4, 5, 6, 7, 8] rfl, ha, (by rw [← e42]; exact nb1)⟩
                            · skip
                              have c314 : ¬ (0 = 0) := fun q9 => c314 ((nc_eq (a := 0) (b := 0) (by omega) (by omega)).mpr q9)
                              omega
                      by_cases e202_3 : how = 3
                      · skip
                        refine lv_tableIn (off := 124) (tgt := 326) hx hb dX4_changed_202 (by rw [e202_3]; decide) (by rw [e202_3]; decide) (by rw [e202_3]; rfl) (by decide) ?_
                        refine lv_aload_n hx hb dX4_changed_326 rfl (lv_at hl 6 rfl) ?_
                        refine lv_iload hx hb dX4_changed_327 (lv_at hl 2 rfl) ?_
                        refine lv_aload_n hx hb dX4_changed_329 rfl (lv_at hl 7 rfl) ?_
                        refine lv_iload hx hb dX4_changed_330 (lv_at hl 2 rfl) ?_
                        refine vp_callSi (va_runS (As := [.ref a, .int (nI i)]) (rest := [.int (nI i), .ref b1]) ⟨hx, hb, hml, hown, hts⟩ (conX4_isAlone l D T a i (by omega)) (va_cwS 2 hts gX4_changed_X4_isAlone rfl rfl rfl (by decide +kernel) ⟨Nat.le_of_ble_eq_true rfl, Nat.le_of_ble_eq_true rfl⟩) (preS hK ha) rfl rfl hl.1 rfl (lv_room (Nat.le_of_ble_eq_true rfl)) dX4_changed_332 ⟨Nat.le_of_ble_eq_true rfl, Nat.le_of_ble_eq_true rfl⟩).run (fun r43 hr43 => ?_)
                        rw [hr43]
                        refine q_zast hx hb hK nb1 i (rfl) (by omega) (by decide) (rfl) hS (hA _ (by omega)) dX4_changed_335 (fun H1 locs1 hw9 hz oq hS => ?_)
                        replace ha := ha.ne oq (by omega)
                        have nb1 := hw9
                        refine lv_goto (tgt := 385) hx hb dX4_changed_336 (by decide) ?_
                        refine lv_iinc (v := nI (i + 1)) (lv' := [(6, .int (nI (i + 1))), (8, .int (nI 1)), (7, .int (nI 0)), (5, .int (nI 201)), (4, .int (nI 201)), (3, .int (nI 0)), (2, .ref b1), (0, .ref a), (1, .int (nI how))]) hx hb dX4_changed_385 hl (k := 2) rfl (inc_1 _) (by decide) rfl (fun ls hl => ?_)
                        refine lv_goto (tgt := 126) hx hb dX4_changed_388 (by decide) ?_
                        have e44 : (eN (T 0) 201 (upd (rwI (chC how) i) i (nI 0))) = (eN (T 0) 201 (rwI (chC how) (i + 1))) := by first | (rw [rwI_c (v := chC how) (show nI 1 = chC how from (if_pos (by omega)).symm)]; done) | (rw [rwI_c (v := chC how) (show nI 0 = chC how from (if_neg (by omega)).symm)]; done)
                        exact hnext _ _ _ ⟨hS, lv_sub hl [0, 3, 4, 5, 6, 7, 8] rfl, ha, (by rw [← e44]; exact nb1)⟩
                      by_cases e202_4 : how = 4
                      · skip
                        refine lv_tableIn (off := 137) (tgt := 339) hx hb dX4_changed_202 (by rw [e202_4]; decide) (by rw [e202_4]; decide) (by rw [e202_4]; rfl) (by decide) ?_
                        refine lv_aload_n hx hb dX4_changed_339 rfl (lv_at hl 6 rfl) ?_
                        refine lv_iload hx hb dX4_changed_340 (lv_at hl 2 rfl) ?_
                        refine lv_aload_n hx hb dX4_changed_342 rfl (lv_at hl 7 rfl) ?_
                        refine lv_sipush (v := nI 200) hx hb dX4_changed_343 (by decide) ?_
                        refine lv_iload hx hb dX4_changed_346 (lv_at hl 2 rfl) ?_
                        refine lv_isub hx hb dX4_changed_348 ?_
                        rw [pk_sub (a := 200) (b := i) (by omega)]
                        refine q_zald hx hb hK ha (200 - i) (rfl) (by omega) (by decide) dX4_changed_349 ?_
                        refine W.eq (g2 := F0 m 350 ls [.int (nI 0), .int (nI i), .ref b1]) rfl ?_
                        refine q_zast hx hb hK nb1 i (rfl) (by omega) (by decide) (rfl) hS (hA _ (by omega)) dX4_changed_350 (fun H1 locs1 hw9 hz oq hS => ?_)
                        replace ha := ha.ne oq (by omega)
                        have nb1 := hw9
                        refine lv_goto (tgt := 385) hx hb dX4_changed_351 (by decide) ?_
                        refine lv_iinc (v := nI (i + 1)) (lv' := [(6, .int (nI (i + 1))), (8, .int (nI 1)), (7, .int (nI 0)), (5, .int (nI 201)), (4, .int (nI 201)), (3, .int (nI 0)), (2, .ref b1), (0, .ref a), (1, .int (nI how))]) hx hb dX4_changed_385 hl (k := 2) rfl (inc_1 _) (by decide) rfl (fun ls hl => ?_)
                        refine lv_goto (tgt := 126) hx hb dX4_changed_388 (by decide) ?_
                        have e45 : (eN (T 0) 201 (upd (rwI (chC how) i) i (nI 0))) = (eN (T 0) 201 (rwI (chC how) (i + 1))) := by first | (rw [rwI_c (v := chC how) (show nI 1 = chC how from (if_pos (by omega)).symm)]; done) | (rw [rwI_c (v := chC how) (show nI 0 = chC how from (if_neg (by omega)).symm)]; done)
                        exact hnext _ _ _ ⟨hS, lv_sub hl [0, 3, 4, 5, 6, 7, 8] rfl, ha, (by rw [← e45]; exact nb1)⟩
                      by_cases e202_5 : how = 5
                      · skip
                        refine lv_tableIn (off := 152) (tgt := 354) hx hb dX4_changed_202 (by rw [e202_5]; decide) (by rw [e202_5]; decide) (by rw [e202_5]; rfl) (by decide) ?_
                        refine lv_aload_n hx hb dX4_changed_354 rfl (lv_at hl 6 rfl) ?_
                        refine lv_iload hx hb dX4_changed_355 (lv_at hl 2 rfl) ?_
                        refine lv_iload hx hb dX4_changed_357 (lv_at hl 2 rfl) ?_
                        refine lv_iload hx hb dX4_changed_359 (lv_at hl 4 rfl) ?_
                        refine lv_icmp_lt (tgt := 375) hx hb dX4_changed_361 (by decide) (fun c361 => ?_) (fun c361 => ?_)
                        · skip
                          have c361 : i < 201 := (nc_lt (a := i) (b := 201) (by omega) (by omega)).mp c361
                          refine lv_iconst (v := nI 0) hx hb dX4_changed_375 (by decide) ?_
                          refine q_zast hx hb hK nb1 i (rfl) (by omega) (by decide) (rfl) hS (hA _ (by omega)) dX4_changed_376 (fun H1 locs1 hw9 hz oq hS => ?_)
                          replace ha := ha.ne oq (by omega)
                          have nb1 := hw9
                          refine lv_goto (tgt := 385) hx hb dX4_changed_377 (by decide) ?_
                          refine lv_iinc (v := nI (i + 1)) (lv' := [(6, .int (nI (i + 1))), (8, .int (nI 1)), (7, .int (nI 0)), (5, .int (nI 201)), (4, .int (nI 201)), (3, .int (nI 0)), (2, .ref b1), (0, .ref a), (1, .int (nI how))]) hx hb dX4_changed_385 hl (k := 2) rfl (inc_1 _) (by decide) rfl (fun ls hl => ?_)
                          refine lv_goto (tgt := 126) hx hb dX4_changed_388 (by decide) ?_
                          have e46 : (eN (T 0) 201 (upd (rwI (chC how) i) i (nI 0))) = (eN (T 0) 201 (rwI (chC how) (i + 1))) := by first | (rw [rwI_c (v := chC how) (show nI 1 = chC how from (if_pos (by omega)).symm)]; done) | (rw [rwI_c (v := chC how) (show nI 0 = chC how from (if_neg (by omega)).symm)]; done)
                          exact hnext _ _ _ ⟨hS, lv_sub hl [0, 3, 4, 5, 6, 7, 8] rfl, ha, (by rw [← e46]; exact nb1)⟩
                        · skip
                          have c361 : ¬ (i < 201) := fun q9 => c361 ((nc_lt (a := i) (b := 201) (by omega) (by omega)).mpr q9)
                          omega
                      by_cases e202_6 : how = 6
                      · skip
                        refine lv_tableIn (off := 152) (tgt := 354) hx hb dX4_changed_202 (by rw [e202_6]; decide) (by rw [e202_6]; decide) (by rw [e202_6]; rfl) (by decide) ?_
                        refine lv_aload_n hx hb dX4_changed_354 rfl (lv_at hl 6 rfl) ?_
                        refine lv_iload hx hb dX4_changed_355 (lv_at hl 2 rfl) ?_
                        refine lv_iload hx hb dX4_changed_357 (lv_at hl 2 rfl) ?_
                        refine lv_iload hx hb dX4_changed_359 (lv_at hl 4 rfl) ?_
                        refine lv_icmp_lt (tgt := 375) hx hb dX4_changed_361 (by decide) (fun c361 => ?_) (fun c361 => ?_)
                        · skip
                          have c361 : i < 201 := (nc_lt (a := i) (b := 201) (by omega) (by omega)).mp c361
                          refine lv_iconst (v := nI 0) hx hb dX4_changed_375 (by decide) ?_
                          refine q_zast hx hb hK nb1 i (rfl) (by omega) (by decide) (rfl) hS (hA _ (by omega)) dX4_changed_376 (fun H1 locs1 hw9 hz oq hS => ?_)
                          replace ha := ha.ne oq (by omega)
                          have nb1 := hw9
                          refine lv_goto (tgt := 385) hx hb dX4_changed_377 (by decide) ?_
                          refine lv_iinc (v := nI (i + 1)) (lv' := [(6, .int (nI (i + 1))), (8, .int (nI 1)), (7, .int (nI 0)), (5, .int (nI 201)), (4, .int (nI 201)), (3, .int (nI 0)), (2, .ref b1), (0, .ref a), (1, .int (nI how))]) hx hb dX4_changed_385 hl (k := 2) rfl (inc_1 _) (by decide) rfl (fun ls hl => ?_)
                          refine lv_goto (tgt := 126) hx hb dX4_changed_388 (by decide) ?_
                          have e47 : (eN (T 0) 201 (upd (rwI (chC how) i) i (nI 0))) = (eN (T 0) 201 (rwI (chC how) (i + 1))) := by first | (rw [rwI_c (v := chC how) (show nI 1 = chC how from (if_pos (by omega)).symm)]; done) | (rw [rwI_c (v := chC how) (show nI 0 = chC how from (if_neg (by omega)).symm)]; done)
                          exact hnext _ _ _ ⟨hS, lv_sub hl [0, 3, 4, 5, 6, 7, 8] rfl, ha, (by rw [← e47]; exact nb1)⟩
                        · skip
                          have c361 : ¬ (i < 201) := fun q9 => c361 ((nc_lt (a := i) (b := 201) (by omega) (by omega)).mpr q9)
                          omega
                      refine lv_tableOut (tgt := 380) hx hb dX4_changed_202 (Or.inr (by rw [nI_toInt (by omega)]; omega)) (by decide) ?_
                      refine lv_aload_n hx hb dX4_changed_380 rfl (lv_at hl 6 rfl) ?_
                      refine lv_iload hx hb dX4_changed_381 (lv_at hl 2 rfl) ?_
                      refine lv_iconst (v := nI 0) hx hb dX4_changed_383 (by decide) ?_
                      refine q_zast hx hb hK nb1 i (rfl) (by omega) (by decide) (rfl) hS (hA _ (by omega)) dX4_changed_384 (fun H1 locs1 hw9 hz oq hS => ?_)
                      replace ha := ha.ne oq (by omega)
                      have nb1 := hw9
                      refine lv_iinc (v := nI (i + 1)) (lv' := [(6, .int (nI (i + 1))), (8, .int (nI 1)), (7, .int (nI 0)), (5, .int (nI 201)), (4, .int (nI 201)), (3, .int (nI 0)), (2, .ref b1), (0, .ref a), (1, .int (nI how))]) hx hb dX4_changed_385 hl (k := 2) rfl (inc_1 _) (by decide) rfl (fun ls hl => ?_)
                      refine lv_goto (tgt := 126) hx hb dX4_changed_388 (by decide) ?_
                      have e48 : (eN (T 0) 201 (upd (rwI (chC how) i) i (nI 0))) = (eN (T 0) 201 (rwI (chC how) (i + 1))) := by first | (rw [rwI_c (v := chC how) (show nI 1 = chC how from (if_pos (by omega)).symm)]; done) | (rw [rwI_c (v := chC how) (show nI 0 = chC how from (if_neg (by omega)).symm)]; done)
                      exact hnext _ _ _ ⟨hS, lv_sub hl [0, 3, 4, 5, 6, 7, 8] rfl, ha, (by rw [← e48]; exact nb1)⟩
                    · skip
                      have c182 : ¬ (i = 200) := fun q9 => c182 ((nc_eq (a := i) (b := 200) (by omega) (by omega)).mpr q9)
                      refine lv_aload_n hx hb dX4_changed_185 rfl (lv_at hl 6 rfl) ?_
                      refine lv_iload hx hb dX4_changed_186 (lv_at hl 1 rfl) ?_
                      refine lv_iconst (v := nI 1) hx hb dX4_changed_188 (by decide) ?_
                      refine lv_iadd hx hb dX4_changed_189 ?_
                      rw [nI_add]
                      refine q_zald hx hb hK ha (i + 1) (rfl) (by omega) (by decide) dX4_changed_190 ?_
                      refine W.eq (g2 := F0 m 191 ls [.int (nI 0)]) rfl ?_
                      refine lv_if_eq (tgt := 198) hx hb dX4_changed_191 (by decide) (fun c191 => ?_) (fun c191 => ?_)
                      · skip
                        have c191 : 0 = 0 := (nc_eq (a := 0) (b := 0) (by omega) (by omega)).mp c191
                        refine lv_iconst (v := nI 0) hx hb dX4_changed_198 (by decide) ?_
                        refine lv_istore (lv' := [(8, .int (nI 0)), (7, .int (nI 0)), (6, .int (nI i)), (5, .int (nI 201)), (4, .int (nI 201)), (3, .int (nI 0)), (2, .ref b1), (0, .ref a), (1, .int (nI how))]) hx hb dX4_changed_199 hl (by decide) rfl (fun ls hl => ?_)
                        refine lv_iload_n hx hb dX4_changed_201 rfl (lv_at hl 8 rfl) ?_
                        by_cases e202_0 : how = 0
                        · skip
                          refine lv_tableIn (off := 42) (tgt := 244) hx hb dX4_changed_202 (by rw [e202_0]; decide) (by rw [e202_0]; decide) (by rw [e202_0]; rfl) (by decide) ?_
                          refine lv_aload_n hx hb dX4_changed_244 rfl (lv_at hl 6 rfl) ?_
                          refine lv_iload hx hb dX4_changed_245 (lv_at hl 2 rfl) ?_
                          refine lv_aload_n hx hb dX4_changed_247 rfl (lv_at hl 7 rfl) ?_
                          refine lv_iload hx hb dX4_changed_248 (lv_at hl 2 rfl) ?_
                          refine q_zald hx hb hK ha i (rfl) (by omega) (by decide) dX4_changed_250 ?_
                          refine W.eq (g2 := F0 m 251 ls [.int (nI 0), .int (nI i), .ref b1]) rfl ?_
                          refine lv_if_ne (tgt := 258) hx hb dX4_changed_251 (by decide) (fun c251 => ?_) (fun c251 => ?_)
                          · skip
                            have c251 : ¬ (0 = 0) := fun q9 => c251 ((nc_eq (a := 0) (b := 0) (by omega) (by omega)).mpr q9)
                            omega
                          · skip
                            have c251 : 0 = 0 := (nc_eq (a := 0) (b := 0) (by omega) (by omega)).mp c251
                            refine lv_iconst (v := nI 1) hx hb dX4_changed_254 (by decide) ?_
                            refine lv_goto (tgt := 259) hx hb dX4_changed_255 (by decide) ?_
                            refine q_zast hx hb hK nb1 i (rfl) (by omega) (by decide) (rfl) hS (hA _ (by omega)) dX4_changed_259 (fun H1 locs1 hw9 hz oq hS => ?_)
                            replace ha := ha.ne oq (by omega)
                            have nb1 := hw9
                            refine lv_goto (tgt := 385) hx hb dX4_changed_260 (by decide) ?_
                            refine lv_iinc (v := nI (i + 1)) (lv' := [(6, .int (nI (i + 1))), (8, .int (nI 0)), (7, .int (nI 0)), (5, .int (nI 201)), (4, .int (nI 201)), (3, .int (nI 0)), (2, .ref b1), (0, .ref a), (1, .int (nI how))]) hx hb dX4_changed_385 hl (k := 2) rfl (inc_1 _) (by decide) rfl (fun ls hl => ?_)
                            refine lv_goto (tgt := 126) hx hb dX4_changed_388 (by decide) ?_
                            have e49 : (eN (T 0) 201 (upd (rwI (chC how) i) i (nI 1))) = (eN (T 0) 201 (rwI (chC how) (i + 1))) := by first | (rw [rwI_c (v := chC how) (show nI 1 = chC how from (if_pos (by omega)).symm)]; done) | (rw [rwI_c (v := chC how) (show nI 0 = chC how from (if_neg (by omega)).symm)]; done)
                            exact hnext _ _ _ ⟨hS, lv_sub hl [0, 3, 4, 5, 6, 7, 8] rfl, ha, (by rw [← e49]; exact nb1)⟩
                        by_cases e202_1 : how = 1
                        · skip
                          refine lv_tableIn (off := 61) (tgt := 263) hx hb dX4_changed_202 (by rw [e202_1]; decide) (by rw [e202_1]; decide) (by rw [e202_1]; rfl) (by decide) ?_
                          refine lv_aload_n hx hb dX4_changed_263 rfl (lv_at hl 6 rfl) ?_
                          refine lv_iload hx hb dX4_changed_264 (lv_at hl 2 rfl) ?_
                          refine lv_aload_n hx hb dX4_changed_266 rfl (lv_at hl 7 rfl) ?_
                          refine lv_iload hx hb dX4_changed_267 (lv_at hl 2 rfl) ?_
                          refine q_zald hx hb hK ha i (rfl) (by omega) (by decide) dX4_changed_269 ?_
                          refine W.eq (g2 := F0 m 270 ls [.int (nI 0), .int (nI i), .ref b1]) rfl ?_
                          refine lv_if_eq (tgt := 290) hx hb dX4_changed_270 (by decide) (fun c270 => ?_) (fun c270 => ?_)
                          · skip
                            have c270 : 0 = 0 := (nc_eq (a := 0) (b := 0) (by omega) (by omega)).mp c270
                            refine lv_iconst (v := nI 0) hx hb dX4_changed_290 (by decide) ?_
                            refine q_zast hx hb hK nb1 i (rfl) (by omega) (by decide) (rfl) hS (hA _ (by omega)) dX4_changed_291 (fun H1 locs1 hw9 hz oq hS => ?_)
                            replace ha := ha.ne oq (by omega)
                            have nb1 := hw9
                            refine lv_goto (tgt := 385) hx hb dX4_changed_292 (by decide) ?_
                            refine lv_iinc (v := nI (i + 1)) (lv' := [(6, .int (nI (i + 1))), (8, .int (nI 0)), (7, .int (nI 0)), (5, .int (nI 201)), (4, .int (nI 201)), (3, .int (nI 0)), (2, .ref b1), (0, .ref a), (1, .int (nI how))]) hx hb dX4_changed_385 hl (k := 2) rfl (inc_1 _) (by decide) rfl (fun ls hl => ?_)
                            refine lv_goto (tgt := 126) hx hb dX4_changed_388 (by decide) ?_
                            have e50 : (eN (T 0) 201 (upd (rwI (chC how) i) i (nI 0))) = (eN (T 0) 201 (rwI (chC how) (i + 1))) := by first | (rw [rwI_c (v := chC how) (show nI 1 = chC how from (if_pos (by omega)).symm)]; done) | (rw [rwI_c (v := chC how) (show nI 0 = chC how from (if_neg (by omega)).symm)]; done)
                            exact hnext _ _ _ ⟨hS, lv_sub hl [0, 3, 4, 5, 6, 7, 8] rfl, ha, (by rw [← e50]; exact nb1)⟩
                          · skip
                            have c270 : ¬ (0 = 0) := fun q9 => c270 ((nc_eq (a := 0) (b := 0) (by omega) (by omega)).mpr q9)
                            omega
                        by_cases e202_2 : how = 2
                        · skip
                          refine lv_tableIn (off := 93) (tgt := 295) hx hb dX4_changed_202 (by rw [e202_2]; decide) (by rw [e202_2]; decide) (by rw [e202_2]; rfl) (by decide) ?_
                          refine lv_aload_n hx hb dX4_changed_295 rfl (lv_at hl 6 rfl) ?_
                          refine lv_iload hx hb dX4_changed_296 (lv_at hl 2 rfl) ?_
                          refine lv_aload_n hx hb dX4_changed_298 rfl (lv_at hl 7 rfl) ?_
                          refine lv_iload hx hb dX4_changed_299 (lv_at hl 2 rfl) ?_
                          refine q_zald hx hb hK ha i (rfl) (by omega) (by decide) dX4_changed_301 ?_
                          refine W.eq (g2 := F0 m 302 ls [.int (nI 0), .int (nI i), .ref b1]) rfl ?_
                          refine lv_if_ne (tgt := 317) hx hb dX4_changed_302 (by decide) (fun c302 => ?_) (fun c302 => ?_)
                          · skip
                            have c302 : ¬ (0 = 0) := fun q9 => c302 ((nc_eq (a := 0) (b := 0) (by omega) (by omega)).mpr q9)
                            omega
                          · skip
                            have c302 : 0 = 0 := (nc_eq (a := 0) (b := 0) (by omega) (by omega)).mp c302
                            refine lv_iload hx hb dX4_changed_305 (lv_at hl 2 rfl) ?_
                            refine lv_iconst (v := nI 2) hx hb dX4_changed_307 (by decide) ?_
                            refine lv_irem hx hb dX4_changed_308 (by decide) ?_
                            rw [pk_rem (a := i) (d := 2) (by omega) (by omega) (by omega)]
                            refine lv_if_ne (tgt := 321) hx hb dX4_changed_309 (by decide) (fun c309 => ?_) (fun c309 => ?_)
                            · skip
                              have c309 : ¬ (i % 2 = 0) := fun q9 => c309 ((nc_eq (a := i % 2) (b := 0) (by omega) (by omega)).mpr q9)
                              refine lv_iconst (v := nI 0) hx hb dX4_changed_321 (by decide) ?_
                              refine q_zast hx hb hK nb1 i (rfl) (by omega) (by decide) (rfl) hS (hA _ (by omega)) dX4_changed_322 (fun H1 locs1 hw9 hz oq hS => ?_)
                              replace ha := ha.ne oq (by omega)
                              have nb1 := hw9
                              refine lv_goto (tgt := 385) hx hb dX4_changed_323 (by decide) ?_
                              refine lv_iinc (v := nI (i + 1)) (lv' := [(6, .int (nI (i + 1))), (8, .int (nI 0)), (7, .int (nI 0)), (5, .int (nI 201)), (4, .int (nI 201)), (3, .int (nI 0)), (2, .ref b1), (0, .ref a), (1, .int (nI how))]) hx hb dX4_changed_385 hl (k := 2) rfl (inc_1 _) (by decide) rfl (fun ls hl => ?_)
                              refine lv_goto (tgt := 126) hx hb dX4_changed_388 (by decide) ?_
                              have e51 : (eN (T 0) 201 (upd (rwI (chC how) i) i (nI 0))) = (eN (T 0) 201 (rwI (chC how) (i + 1))) := by first | (rw [rwI_c (v := chC how) (show nI 1 = chC how from (if_pos (by omega)).symm)]; done) | (rw [rwI_c (v := chC how) (show nI 0 = chC how from (if_neg (by omega)).symm)]; done)
                              exact hnext _ _ _ ⟨hS, lv_sub hl [0, 3, 4, 5, 6, 7, 8] rfl, ha, (by rw [← e51]; exact nb1)⟩
                            · skip
                              have c309 : i % 2 = 0 := (nc_eq (a := i % 2) (b := 0) (by omega) (by omega)).mp c309
                              refine lv_iload hx hb dX4_changed_312 (lv_at hl 1 rfl) ?_
                              refine lv_if_eq (tgt := 321) hx hb dX4_changed_314 (by decide) (fun c314 => ?_) (fun c314 => ?_)
                              · skip
                                have c314 : 0 = 0 := (nc_eq (a := 0) (b := 0) (by omega) (by omega)).mp c314
                                refine lv_iconst (v := nI 0) hx hb dX4_changed_321 (by decide) ?_
                                refine q_zast hx hb hK nb1 i (rfl) (by omega) (by decide) (rfl) hS (hA _ (by omega)) dX4_changed_322 (fun H1 locs1 hw9 hz oq hS => ?_)
                                replace ha := ha.ne oq (by omega)
                                have nb1 := hw9
                                refine lv_goto (tgt := 385) hx hb dX4_changed_323 (by decide) ?_
                                refine lv_iinc (v := nI (i + 1)) (lv' := [(6, .int (nI (i + 1))), (8, .int (nI 0)), (7, .int (nI 0)), (5, .int (nI 201)), (4, .int (nI 201)), (3, .int (nI 0)), (2, .ref b1), (0, .ref a), (1, .int (nI how))]) hx hb dX4_changed_385 hl (k := 2) rfl (inc_1 _) (by decide) rfl (fun ls hl => ?_)
                                refine lv_goto (tgt := 126) hx hb dX4_changed_388 (by decide) ?_
                                have e52 : (eN (T 0) 201 (upd (rwI (chC how) i) i (nI 0))) = (eN (T 0) 201 (rwI (chC how) (i + 1))) := by first | (rw [rwI_c (v := chC how) (show nI 1 = chC how from (if_pos (by omega)).symm)]; done) | (rw [rwI_c (v := chC how) (show nI 0 = chC how from (if_neg (by omega)).symm)]; done)
                                exact hnext _ _ _ ⟨hS, lv_sub hl [0, 3, 4, 5, 6, 7, 8] rfl, ha, (by rw [← e52]; exact nb1)⟩
                              · skip
                                have c314 : ¬ (0 = 0) := fun q9 => c314 ((nc_eq (a := 0) (b := 0) (by omega) (by omega)).mpr q9)
                                omega
                        by_cases e202_3 : how = 3
                        · skip
                          refine lv_tableIn (off := 124) (tgt := 326) hx hb dX4_changed_202 (by rw [e202_3]; decide) (by rw [e202_3]; decide) (by rw [e202_3]; rfl) (by decide) ?_
                          refine lv_aload_n hx hb dX4_changed_326 rfl (lv_at hl 6 rfl) ?_
                          refine lv_iload hx hb dX4_changed_327 (lv_at hl 2 rfl) ?_
                          refine lv_aload_n hx hb dX4_changed_329 rfl (lv_at hl 7 rfl) ?_
                          refine lv_iload hx hb dX4_changed_330 (lv_at hl 2 rfl) ?_
                          refine vp_callSi (va_runS (As := [.ref a, .int (nI i)]) (rest := [.int (nI i), .ref b1]) ⟨hx, hb, hml, hown, hts⟩ (conX4_isAlone l D T a i (by omega)) (va_cwS 2 hts gX4_changed_X4_isAlone rfl rfl rfl (by decide +kernel) ⟨Nat.le_of_ble_eq_true rfl, Nat.le_of_ble_eq_true rfl⟩) (preS hK ha) rfl rfl hl.1 rfl (lv_room (Nat.le_of_ble_eq_true rfl)) dX4_changed_332 ⟨Nat.le_of_ble_eq_true rfl, Nat.le_of_ble_eq_true rfl⟩).run (fun r53 hr53 => ?_)
                          rw [hr53]
                          refine q_zast hx hb hK nb1 i (rfl) (by omega) (by decide) (rfl) hS (hA _ (by omega)) dX4_changed_335 (fun H1 locs1 hw9 hz oq hS => ?_)
                          replace ha := ha.ne oq (by omega)
                          have nb1 := hw9
                          refine lv_goto (tgt := 385) hx hb dX4_changed_336 (by decide) ?_
                          refine lv_iinc (v := nI (i + 1)) (lv' := [(6, .int (nI (i + 1))), (8, .int (nI 0)), (7, .int (nI 0)), (5, .int (nI 201)), (4, .int (nI 201)), (3, .int (nI 0)), (2, .ref b1), (0, .ref a), (1, .int (nI how))]) hx hb dX4_changed_385 hl (k := 2) rfl (inc_1 _) (by decide) rfl (fun ls hl => ?_)
                          refine lv_goto (tgt := 126) hx hb dX4_changed_388 (by decide) ?_
                          have e54 : (eN (T 0) 201 (upd (rwI (chC how) i) i (nI 0))) = (eN (T 0) 201 (rwI (chC how) (i + 1))) := by first | (rw [rwI_c (v := chC how) (show nI 1 = chC how from (if_pos (by omega)).symm)]; done) | (rw [rwI_c (v := chC how) (show nI 0 = chC how from (if_neg (by omega)).symm)]; done)
                          exact hnext _ _ _ ⟨hS, lv_sub hl [0, 3, 4, 5, 6, 7, 8] rfl, ha, (by rw [← e54]; exact nb1)⟩
                        by_cases e202_4 : how = 4
                        · skip
                          refine lv_tableIn (off := 137) (tgt := 339) hx hb dX4_changed_202 (by rw [e202_4]; decide) (by rw [e202_4]; decide) (by rw [e202_4]; rfl) (by decide) ?_
                          refine lv_aload_n hx hb dX4_changed_339 rfl (lv_at hl 6 rfl) ?_
                          refine lv_iload hx hb dX4_changed_340 (lv_at hl 2 rfl) ?_
                          refine lv_aload_n hx hb dX4_changed_342 rfl (lv_at hl 7 rfl) ?_
                          refine lv_sipush (v := nI 200) hx hb dX4_changed_343 (by decide) ?_
                          refine lv_iload hx hb dX4_changed_346 (lv_at hl 2 rfl) ?_
                          refine lv_isub hx hb dX4_changed_348 ?_
                          rw [pk_sub (a := 200) (b := i) (by omega)]
                          refine q_zald hx hb hK ha (200 - i) (rfl) (by omega) (by decide) dX4_changed_349 ?_
                          refine W.eq (g2 := F0 m 350 ls [.int (nI 0), .int (nI i), .ref b1]) rfl ?_
                          refine q_zast hx hb hK nb1 i (rfl) (by omega) (by decide) (rfl) hS (hA _ (by omega)) dX4_changed_350 (fun H1 locs1 hw9 hz oq hS => ?_)
                          replace ha := ha.ne oq (by omega)
                          have nb1 := hw9
                          refine lv_goto (tgt := 385) hx hb dX4_changed_351 (by decide) ?_
                          refine lv_iinc (v := nI (i + 1)) (lv' := [(6, .int (nI (i + 1))), (8, .int (nI 0)), (7, .int (nI 0)), (5, .int (nI 201)), (4, .int (nI 201)), (3, .int (nI 0)), (2, .ref b1), (0, .ref a), (1, .int (nI how))]) hx hb dX4_changed_385 hl (k := 2) rfl (inc_1 _) (by decide) rfl (fun ls hl => ?_)
                          refine lv_goto (tgt := 126) hx hb dX4_changed_388 (by decide) ?_
                          have e55 : (eN (T 0) 201 (upd (rwI (chC how) i) i (nI 0))) = (eN (T 0) 201 (rwI (chC how) (i + 1))) := by first | (rw [rwI_c (v := chC how) (show nI 1 = chC how from (if_pos (by omega)).symm)]; done) | (rw [rwI_c (v := chC how) (show nI 0 = chC how from (if_neg (by omega)).symm)]; done)
                          exact hnext _ _ _ ⟨hS, lv_sub hl [0, 3, 4, 5, 6, 7, 8] rfl, ha, (by rw [← e55]; exact nb1)⟩
                        by_cases e202_5 : how = 5
                        · skip
                          refine lv_tableIn (off := 152) (tgt := 354) hx hb dX4_changed_202 (by rw [e202_5]; decide) (by rw [e202_5]; decide) (by rw [e202_5]; rfl) (by decide) ?_
                          refine lv_aload_n hx hb dX4_changed_354 rfl (lv_at hl 6 rfl) ?_
                          refine lv_iload hx hb dX4_changed_355 (lv_at hl 2 rfl) ?_
                          refine lv_iload hx hb dX4_changed_357 (lv_at hl 2 rfl) ?_
                          refine lv_iload hx hb dX4_changed_359 (lv_at hl 4 rfl) ?_
                          refine lv_icmp_lt (tgt := 375) hx hb dX4_changed_361 (by decide) (fun c361 => ?_) (fun c361 => ?_)
                          · skip
                            have c361 : i < 201 := (nc_lt (a := i) (b := 201) (by omega) (by omega)).mp c361
                            refine lv_iconst (v := nI 0) hx hb dX4_changed_375 (by decide) ?_
                            refine q_zast hx hb hK nb1 i (rfl) (by omega) (by decide) (rfl) hS (hA _ (by omega)) dX4_changed_376 (fun H1 locs1 hw9 hz oq hS => ?_)
                            replace ha := ha.ne oq (by omega)
                            have nb1 := hw9
                            refine lv_goto (tgt := 385) hx hb dX4_changed_377 (by decide) ?_
                            refine lv_iinc (v := nI (i + 1)) (lv' := [(6, .int (nI (i + 1))), (8, .int (nI 0)), (7, .int (nI 0)), (5, .int (nI 201)), (4, .int (nI 201)), (3, .int (nI 0)), (2, .ref b1), (0, .ref a), (1, .int (nI how))]) hx hb dX4_changed_385 hl (k := 2) rfl (inc_1 _) (by decide) rfl (fun ls hl => ?_)
                            refine lv_goto (tgt := 126) hx hb dX4_changed_388 (by decide) ?_
                            have e56 : (eN (T 0) 201 (upd (rwI (chC how) i) i (nI 0))) = (eN (T 0) 201 (rwI (chC how) (i + 1))) := by first | (rw [rwI_c (v := chC how) (show nI 1 = chC how from (if_pos (by omega)).symm)]; done) | (rw [rwI_c (v := chC how) (show nI 0 = chC how from (if_neg (by omega)).symm)]; done)
                            exact hnext _ _ _ ⟨hS, lv_sub hl [0, 3, 4, 5, 6, 7, 8] rfl, ha, (by rw [← e56]; exact nb1)⟩
                          · skip
                            have c361 : ¬ (i < 201) := fun q9 => c361 ((nc_lt (a := i) (b := 201) (by omega) (by omega)).mpr q9)
                            omega
                        by_cases e202_6 : how = 6
                        · skip
                          refine lv_tableIn (off := 152) (tgt := 354) hx hb dX4_changed_202 (by rw [e202_6]; decide) (by rw [e202_6]; decide) (by rw [e202_6]; rfl) (by decide) ?_
                          refine lv_aload_n hx hb dX4_changed_354 rfl (lv_at hl 6 rfl) ?_
                          refine lv_iload hx hb dX4_changed_355 (lv_at hl 2 rfl) ?_
                          refine lv_iload hx hb dX4_changed_357 (lv_at hl 2 rfl) ?_
                          refine lv_iload hx hb dX4_changed_359 (lv_at hl 4 rfl) ?_
                          refine lv_icmp_lt (tgt := 375) hx hb dX4_changed_361 (by decide) (fun c361 => ?_) (fun c361 => ?_)
                          · skip
                            have c361 : i < 201 := (nc_lt (a := i) (b := 201) (by omega) (by omega)).mp c361
                            refine lv_iconst (v := nI 0) hx hb dX4_changed_375 (by decide) ?_
                            refine q_zast hx hb hK nb1 i (rfl) (by omega) (by decide) (rfl) hS (hA _ (by omega)) dX4_changed_376 (fun H1 locs1 hw9 hz oq hS => ?_)
                            replace ha := ha.ne oq (by omega)
                            have nb1 := hw9
                            refine lv_goto (tgt := 385) hx hb dX4_changed_377 (by decide) ?_
                            refine lv_iinc (v := nI (i + 1)) (lv' := [(6, .int (nI (i + 1))), (8, .int (nI 0)), (7, .int (nI 0)), (5, .int (nI 201)), (4, .int (nI 201)), (3, .int (nI 0)), (2, .ref b1), (0, .ref a), (1, .int (nI how))]) hx hb dX4_changed_385 hl (k := 2) rfl (inc_1 _) (by decide) rfl (fun ls hl => ?_)
                            refine lv_goto (tgt := 126) hx hb dX4_changed_388 (by decide) ?_
                            have e57 : (eN (T 0) 201 (upd (rwI (chC how) i) i (nI 0))) = (eN (T 0) 201 (rwI (chC how) (i + 1))) := by first | (rw [rwI_c (v := chC how) (show nI 1 = chC how from (if_pos (by omega)).symm)]; done) | (rw [rwI_c (v := chC how) (show nI 0 = chC how from (if_neg (by omega)).symm)]; done)
                            exact hnext _ _ _ ⟨hS, lv_sub hl [0, 3, 4, 5, 6, 7, 8] rfl, ha, (by rw [← e57]; exact nb1)⟩
                          · skip
                            have c361 : ¬ (i < 201) := fun q9 => c361 ((nc_lt (a := i) (b := 201) (by omega) (by omega)).mpr q9)
                            omega
                        refine lv_tableOut (tgt := 380) hx hb dX4_changed_202 (Or.inr (by rw [nI_toInt (by omega)]; omega)) (by decide) ?_
                        refine lv_aload_n hx hb dX4_changed_380 rfl (lv_at hl 6 rfl) ?_
                        refine lv_iload hx hb dX4_changed_381 (lv_at hl 2 rfl) ?_
                        refine lv_iconst (v := nI 0) hx hb dX4_changed_383 (by decide) ?_
                        refine q_zast hx hb hK nb1 i (rfl) (by omega) (by decide) (rfl) hS (hA _ (by omega)) dX4_changed_384 (fun H1 locs1 hw9 hz oq hS => ?_)
                        replace ha := ha.ne oq (by omega)
                        have nb1 := hw9
                        refine lv_iinc (v := nI (i + 1)) (lv' := [(6, .int (nI (i + 1))), (8, .int (nI 0)), (7, .int (nI 0)), (5, .int (nI 201)), (4, .int (nI 201)), (3, .int (nI 0)), (2, .ref b1), (0, .ref a), (1, .int (nI how))]) hx hb dX4_changed_385 hl (k := 2) rfl (inc_1 _) (by decide) rfl (fun ls hl => ?_)
                        refine lv_goto (tgt := 126) hx hb dX4_changed_388 (by decide) ?_
                        have e58 : (eN (T 0) 201 (upd (rwI (chC how) i) i (nI 0))) = (eN (T 0) 201 (rwI (chC how) (i + 1))) := by first | (rw [rwI_c (v := chC how) (show nI 1 = chC how from (if_pos (by omega)).symm)]; done) | (rw [rwI_c (v := chC how) (show nI 0 = chC how from (if_neg (by omega)).symm)]; done)
                        exact hnext _ _ _ ⟨hS, lv_sub hl [0, 3, 4, 5, 6, 7, 8] rfl, ha, (by rw [← e58]; exact nb1)⟩
                      · skip
                        have c191 : ¬ (0 = 0) := fun q9 => c191 ((nc_eq (a := 0) (b := 0) (by omega) (by omega)).mpr q9)
                        omega
                  · skip
                    have c165 : ¬ (i = 0) := fun q9 => c165 ((nc_eq (a := i) (b := 0) (by omega) (by omega)).mpr q9)
                    refine lv_aload_n hx hb dX4_changed_168 rfl (lv_at hl 6 rfl) ?_
                    refine lv_iload hx hb dX4_changed_169 (lv_at hl 1 rfl) ?_
                    refine lv_iconst (v := nI 1) hx hb dX4_changed_171 (by decide) ?_
                    refine lv_isub hx hb dX4_changed_172 ?_
                    rw [pk_sub (a := i) (b := 1) (by omega)]
                    refine q_zald hx hb hK ha (i - 1) (rfl) (by omega) (by decide) dX4_changed_173 ?_
                    refine W.eq (g2 := F0 m 174 ls [.int (nI 0)]) rfl ?_
                    refine lv_if_eq (tgt := 198) hx hb dX4_changed_174 (by decide) (fun c174 => ?_) (fun c174 => ?_)
                    · skip
                      have c174 : 0 = 0 := (nc_eq (a := 0) (b := 0) (by omega) (by omega)).mp c174
                      refine lv_iconst (v := nI 0) hx hb dX4_changed_198 (by decide) ?_
                      refine lv_istore (lv' := [(8, .int (nI 0)), (7, .int (nI 0)), (6, .int (nI i)), (5, .int (nI 201)), (4, .int (nI 201)), (3, .int (nI 0)), (2, .ref b1), (0, .ref a), (1, .int (nI how))]) hx hb dX4_changed_199 hl (by decide) rfl (fun ls hl => ?_)
                      refine lv_iload_n hx hb dX4_changed_201 rfl (lv_at hl 8 rfl) ?_
                      by_cases e202_0 : how = 0
                      · skip
                        refine lv_tableIn (off := 42) (tgt := 244) hx hb dX4_changed_202 (by rw [e202_0]; decide) (by rw [e202_0]; decide) (by rw [e202_0]; rfl) (by decide) ?_
                        refine lv_aload_n hx hb dX4_changed_244 rfl (lv_at hl 6 rfl) ?_
                        refine lv_iload hx hb dX4_changed_245 (lv_at hl 2 rfl) ?_
                        refine lv_aload_n hx hb dX4_changed_247 rfl (lv_at hl 7 rfl) ?_
                        refine lv_iload hx hb dX4_changed_248 (lv_at hl 2 rfl) ?_
                        refine q_zald hx hb hK ha i (rfl) (by omega) (by decide) dX4_changed_250 ?_
                        refine W.eq (g2 := F0 m 251 ls [.int (nI 0), .int (nI i), .ref b1]) rfl ?_
                        refine lv_if_ne (tgt := 258) hx hb dX4_changed_251 (by decide) (fun c251 => ?_) (fun c251 => ?_)
                        · skip
                          have c251 : ¬ (0 = 0) := fun q9 => c251 ((nc_eq (a := 0) (b := 0) (by omega) (by omega)).mpr q9)
                          omega
                        · skip
                          have c251 : 0 = 0 := (nc_eq (a := 0) (b := 0) (by omega) (by omega)).mp c251
                          refine lv_iconst (v := nI 1) hx hb dX4_changed_254 (by decide) ?_
                          refine lv_goto (tgt := 259) hx hb dX4_changed_255 (by decide) ?_
                          refine q_zast hx hb hK nb1 i (rfl) (by omega) (by decide) (rfl) hS (hA _ (by omega)) dX4_changed_259 (fun H1 locs1 hw9 hz oq hS => ?_)
                          replace ha := ha.ne oq (by omega)
                          have nb1 := hw9
                          refine lv_goto (tgt := 385) hx hb dX4_changed_260 (by decide) ?_
                          refine lv_iinc (v := nI (i + 1)) (lv' := [(6, .int (nI (i + 1))), (8, .int (nI 0)), (7, .int (nI 0)), (5, .int (nI 201)), (4, .int (nI 201)), (3, .int (nI 0)), (2, .ref b1), (0, .ref a), (1, .int (nI how))]) hx hb dX4_changed_385 hl (k := 2) rfl (inc_1 _) (by decide) rfl (fun ls hl => ?_)
                          refine lv_goto (tgt := 126) hx hb dX4_changed_388 (by decide) ?_
                          have e59 : (eN (T 0) 201 (upd (rwI (chC how) i) i (nI 1))) = (eN (T 0) 201 (rwI (chC how) (i + 1))) := by first | (rw [rwI_c (v := chC how) (show nI 1 = chC how from (if_pos (by omega)).symm)]; done) | (rw [rwI_c (v := chC how) (show nI 0 = chC how from (if_neg (by omega)).symm)]; done)
                          exact hnext _ _ _ ⟨hS, lv_sub hl [0, 3, 4, 5, 6, 7, 8] rfl, ha, (by rw [← e59]; exact nb1)⟩
                      by_cases e202_1 : how = 1
                      · skip
                        refine lv_tableIn (off := 61) (tgt := 263) hx hb dX4_changed_202 (by rw [e202_1]; decide) (by rw [e202_1]; decide) (by rw [e202_1]; rfl) (by decide) ?_
                        refine lv_aload_n hx hb dX4_changed_263 rfl (lv_at hl 6 rfl) ?_
                        refine lv_iload hx hb dX4_changed_264 (lv_at hl 2 rfl) ?_
                        refine lv_aload_n hx hb dX4_changed_266 rfl (lv_at hl 7 rfl) ?_
                        refine lv_iload hx hb dX4_changed_267 (lv_at hl 2 rfl) ?_
                        refine q_zald hx hb hK ha i (rfl) (by omega) (by decide) dX4_changed_269 ?_
                        refine W.eq (g2 := F0 m 270 ls [.int (nI 0), .int (nI i), .ref b1]) rfl ?_
                        refine lv_if_eq (tgt := 290) hx hb dX4_changed_270 (by decide) (fun c270 => ?_) (fun c270 => ?_)
                        · skip
                          have c270 : 0 = 0 := (nc_eq (a := 0) (b := 0) (by omega) (by omega)).mp c270
                          refine lv_iconst (v := nI 0) hx hb dX4_changed_290 (by decide) ?_
                          refine q_zast hx hb hK nb1 i (rfl) (by omega) (by decide) (rfl) hS (hA _ (by omega)) dX4_changed_291 (fun H1 locs1 hw9 hz oq hS => ?_)
                          replace ha := ha.ne oq (by omega)
                          have nb1 := hw9
                          refine lv_goto (tgt := 385) hx hb dX4_changed_292 (by decide) ?_
                          refine lv_iinc (v := nI (i + 1)) (lv' := [(6, .int (nI (i + 1))), (8, .int (nI 0)), (7, .int (nI 0)), (5, .int (nI 201)), (4, .int (nI 201)), (3, .int (nI 0)), (2, .ref b1), (0, .ref a), (1, .int (nI how))]) hx hb dX4_changed_385 hl (k := 2) rfl (inc_1 _) (by decide) rfl (fun ls hl => ?_)
                          refine lv_goto (tgt := 126) hx hb dX4_changed_388 (by decide) ?_
                          have e60 : (eN (T 0) 201 (upd (rwI (chC how) i) i (nI 0))) = (eN (T 0) 201 (rwI (chC how) (i + 1))) := by first | (rw [rwI_c (v := chC how) (show nI 1 = chC how from (if_pos (by omega)).symm)]; done) | (rw [rwI_c (v := chC how) (show nI 0 = chC how from (if_neg (by omega)).symm)]; done)
                          exact hnext _ _ _ ⟨hS, lv_sub hl [0, 3, 4, 5, 6, 7, 8] rfl, ha, (by rw [← e60]; exact nb1)⟩
                        · skip
                          have c270 : ¬ (0 = 0) := fun q9 => c270 ((nc_eq (a := 0) (b := 0) (by omega) (by omega)).mpr q9)
                          omega
                      by_cases e202_2 : how = 2
                      · skip
                        refine lv_tableIn (off := 93) (tgt := 295) hx hb dX4_changed_202 (by rw [e202_2]; decide) (by rw [e202_2]; decide) (by rw [e202_2]; rfl) (by decide) ?_
                        refine lv_aload_n hx hb dX4_changed_295 rfl (lv_at hl 6 rfl) ?_
                        refine lv_iload hx hb dX4_changed_296 (lv_at hl 2 rfl) ?_
                        refine lv_aload_n hx hb dX4_changed_298 rfl (lv_at hl 7 rfl) ?_
                        refine lv_iload hx hb dX4_changed_299 (lv_at hl 2 rfl) ?_
                        refine q_zald hx hb hK ha i (rfl) (by omega) (by decide) dX4_changed_301 ?_
                        refine W.eq (g2 := F0 m 302 ls [.int (nI 0), .int (nI i), .ref b1]) rfl ?_
                        refine lv_if_ne (tgt := 317) hx hb dX4_changed_302 (by decide) (fun c302 => ?_) (fun c302 => ?_)
                        · skip
                          have c302 : ¬ (0 = 0) := fun q9 => c302 ((nc_eq (a := 0) (b := 0) (by omega) (by omega)).mpr q9)
                          omega
                        · skip
                          have c302 : 0 = 0 := (nc_eq (a := 0) (b := 0) (by omega) (by omega)).mp c302
                          refine lv_iload hx hb dX4_changed_305 (lv_at hl 2 rfl) ?_
                          refine lv_iconst (v := nI 2) hx hb dX4_changed_307 (by decide) ?_
                          refine lv_irem hx hb dX4_changed_308 (by decide) ?_
                          rw [pk_rem (a := i) (d := 2) (by omega) (by omega) (by omega)]
                          refine lv_if_ne (tgt := 321) hx hb dX4_changed_309 (by decide) (fun c309 => ?_) (fun c309 => ?_)
                          · skip
                            have c309 : ¬ (i % 2 = 0) := fun q9 => c309 ((nc_eq (a := i % 2) (b := 0) (by omega) (by omega)).mpr q9)
                            refine lv_iconst (v := nI 0) hx hb dX4_changed_321 (by decide) ?_
                            refine q_zast hx hb hK nb1 i (rfl) (by omega) (by decide) (rfl) hS (hA _ (by omega)) dX4_changed_322 (fun H1 locs1 hw9 hz oq hS => ?_)
                            replace ha := ha.ne oq (by omega)
                            have nb1 := hw9
                            refine lv_goto (tgt := 385) hx hb dX4_changed_323 (by decide) ?_
                            refine lv_iinc (v := nI (i + 1)) (lv' := [(6, .int (nI (i + 1))), (8, .int (nI 0)), (7, .int (nI 0)), (5, .int (nI 201)), (4, .int (nI 201)), (3, .int (nI 0)), (2, .ref b1), (0, .ref a), (1, .int (nI how))]) hx hb dX4_changed_385 hl (k := 2) rfl (inc_1 _) (by decide) rfl (fun ls hl => ?_)
                            refine lv_goto (tgt := 126) hx hb dX4_changed_388 (by decide) ?_
                            have e61 : (eN (T 0) 201 (upd (rwI (chC how) i) i (nI 0))) = (eN (T 0) 201 (rwI (chC how) (i + 1))) := by first | (rw [rwI_c (v := chC how) (show nI 1 = chC how from (if_pos (by omega)).symm)]; done) | (rw [rwI_c (v := chC how) (show nI 0 = chC how from (if_neg (by omega)).symm)]; done)
                            exact hnext _ _ _ ⟨hS, lv_sub hl [0, 3, 4, 5, 6, 7, 8] rfl, ha, (by rw [← e61]; exact nb1)⟩
                          · skip
                            have c309 : i % 2 = 0 := (nc_eq (a := i % 2) (b := 0) (by omega) (by omega)).mp c309
                            refine lv_iload hx hb dX4_changed_312 (lv_at hl 1 rfl) ?_
                            refine lv_if_eq (tgt := 321) hx hb dX4_changed_314 (by decide) (fun c314 => ?_) (fun c314 => ?_)
                            · skip
                              have c314 : 0 = 0 := (nc_eq (a := 0) (b := 0) (by omega) (by omega)).mp c314
                              refine lv_iconst (v := nI 0) hx hb dX4_changed_321 (by decide) ?_
                              refine q_zast hx hb hK nb1 i (rfl) (by omega) (by decide) (rfl) hS (hA _ (by omega)) dX4_changed_322 (fun H1 locs1 hw9 hz oq hS => ?_)
                              replace ha := ha.ne oq (by omega)
                              have nb1 := hw9
                              refine lv_goto (tgt := 385) hx hb dX4_changed_323 (by decide) ?_
                              refine lv_iinc (v := nI (i + 1)) (lv' := [(6, .int (nI (i + 1))), (8, .int (nI 0)), (7, .int (nI 0)), (5, .int (nI 201)), (4, .int (nI 201)), (3, .int (nI 0)), (2, .ref b1), (0, .ref a), (1, .int (nI how))]) hx hb dX4_changed_385 hl (k := 2) rfl (inc_1 _) (by decide) rfl (fun ls hl => ?_)
                              refine lv_goto (tgt := 126) hx hb dX4_changed_388 (by decide) ?_
                              have e62 : (eN (T 0) 201 (upd (rwI (chC how) i) i (nI 0))) = (eN (T 0) 201 (rwI (chC how) (i + 1))) := by first | (rw [rwI_c (v := chC how) (show nI 1 = chC how from (if_pos (by omega)).symm)]; done) | (rw [rwI_c (v := chC how) (show nI 0 = chC how from (if_neg (by omega)).symm)]; done)
                              exact hnext _ _ _ ⟨hS, lv_sub hl [0, 3, 4, 5, 6, 7, 8] rfl, ha, (by rw [← e62]; exact nb1)⟩
                            · skip
                              have c314 : ¬ (0 = 0) := fun q9 => c314 ((nc_eq (a := 0) (b := 0) (by omega) (by omega)).mpr q9)
                              omega
                      by_cases e202_3 : how = 3
                      · skip
                        refine lv_tableIn (off := 124) (tgt := 326) hx hb dX4_changed_202 (by rw [e202_3]; decide) (by rw [e202_3]; decide) (by rw [e202_3]; rfl) (by decide) ?_
                        refine lv_aload_n hx hb dX4_changed_326 rfl (lv_at hl 6 rfl) ?_
                        refine lv_iload hx hb dX4_changed_327 (lv_at hl 2 rfl) ?_
                        refine lv_aload_n hx hb dX4_changed_329 rfl (lv_at hl 7 rfl) ?_
                        refine lv_iload hx hb dX4_changed_330 (lv_at hl 2 rfl) ?_
                        refine vp_callSi (va_runS (As := [.ref a, .int (nI i)]) (rest := [.int (nI i), .ref b1]) ⟨hx, hb, hml, hown, hts⟩ (conX4_isAlone l D T a i (by omega)) (va_cwS 2 hts gX4_changed_X4_isAlone rfl rfl rfl (by decide +kernel) ⟨Nat.le_of_ble_eq_true rfl, Nat.le_of_ble_eq_true rfl⟩) (preS hK ha) rfl rfl hl.1 rfl (lv_room (Nat.le_of_ble_eq_true rfl)) dX4_changed_332 ⟨Nat.le_of_ble_eq_true rfl, Nat.le_of_ble_eq_true rfl⟩).run (fun r63 hr63 => ?_)
                        rw [hr63]
                        refine q_zast hx hb hK nb1 i (rfl) (by omega) (by decide) (rfl) hS (hA _ (by omega)) dX4_changed_335 (fun H1 locs1 hw9 hz oq hS => ?_)
                        replace ha := ha.ne oq (by omega)
                        have nb1 := hw9
                        refine lv_goto (tgt := 385) hx hb dX4_changed_336 (by decide) ?_
                        refine lv_iinc (v := nI (i + 1)) (lv' := [(6, .int (nI (i + 1))), (8, .int (nI 0)), (7, .int (nI 0)), (5, .int (nI 201)), (4, .int (nI 201)), (3, .int (nI 0)), (2, .ref b1), (0, .ref a), (1, .int (nI how))]) hx hb dX4_changed_385 hl (k := 2) rfl (inc_1 _) (by decide) rfl (fun ls hl => ?_)
                        refine lv_goto (tgt := 126) hx hb dX4_changed_388 (by decide) ?_
                        have e64 : (eN (T 0) 201 (upd (rwI (chC how) i) i (nI 0))) = (eN (T 0) 201 (rwI (chC how) (i + 1))) := by first | (rw [rwI_c (v := chC how) (show nI 1 = chC how from (if_pos (by omega)).symm)]; done) | (rw [rwI_c (v := chC how) (show nI 0 = chC how from (if_neg (by omega)).symm)]; done)
                        exact hnext _ _ _ ⟨hS, lv_sub hl [0, 3, 4, 5, 6, 7, 8] rfl, ha, (by rw [← e64]; exact nb1)⟩
                      by_cases e202_4 : how = 4
                      · skip
                        refine lv_tableIn (off := 137) (tgt := 339) hx hb dX4_changed_202 (by rw [e202_4]; decide) (by rw [e202_4]; decide) (by rw [e202_4]; rfl) (by decide) ?_
                        refine lv_aload_n hx hb dX4_changed_339 rfl (lv_at hl 6 rfl) ?_
                        refine lv_iload hx hb dX4_changed_340 (lv_at hl 2 rfl) ?_
                        refine lv_aload_n hx hb dX4_changed_342 rfl (lv_at hl 7 rfl) ?_
                        refine lv_sipush (v := nI 200) hx hb dX4_changed_343 (by decide) ?_
                        refine lv_iload hx hb dX4_changed_346 (lv_at hl 2 rfl) ?_
                        refine lv_isub hx hb dX4_changed_348 ?_
                        rw [pk_sub (a := 200) (b := i) (by omega)]
                        refine q_zald hx hb hK ha (200 - i) (rfl) (by omega) (by decide) dX4_changed_349 ?_
                        refine W.eq (g2 := F0 m 350 ls [.int (nI 0), .int (nI i), .ref b1]) rfl ?_
                        refine q_zast hx hb hK nb1 i (rfl) (by omega) (by decide) (rfl) hS (hA _ (by omega)) dX4_changed_350 (fun H1 locs1 hw9 hz oq hS => ?_)
                        replace ha := ha.ne oq (by omega)
                        have nb1 := hw9
                        refine lv_goto (tgt := 385) hx hb dX4_changed_351 (by decide) ?_
                        refine lv_iinc (v := nI (i + 1)) (lv' := [(6, .int (nI (i + 1))), (8, .int (nI 0)), (7, .int (nI 0)), (5, .int (nI 201)), (4, .int (nI 201)), (3, .int (nI 0)), (2, .ref b1), (0, .ref a), (1, .int (nI how))]) hx hb dX4_changed_385 hl (k := 2) rfl (inc_1 _) (by decide) rfl (fun ls hl => ?_)
                        refine lv_goto (tgt := 126) hx hb dX4_changed_388 (by decide) ?_
                        have e65 : (eN (T 0) 201 (upd (rwI (chC how) i) i (nI 0))) = (eN (T 0) 201 (rwI (chC how) (i + 1))) := by first | (rw [rwI_c (v := chC how) (show nI 1 = chC how from (if_pos (by omega)).symm)]; done) | (rw [rwI_c (v := chC how) (show nI 0 = chC how from (if_neg (by omega)).symm)]; done)
                        exact hnext _ _ _ ⟨hS, lv_sub hl [0, 3, 4, 5, 6, 7, 8] rfl, ha, (by rw [← e65]; exact nb1)⟩
                      by_cases e202_5 : how = 5
                      · skip
                        refine lv_tableIn (off := 152) (tgt := 354) hx hb dX4_changed_202 (by rw [e202_5]; decide) (by rw [e202_5]; decide) (by rw [e202_5]; rfl) (by decide) ?_
                        refine lv_aload_n hx hb dX4_changed_354 rfl (lv_at hl 6 rfl) ?_
                        refine lv_iload hx hb dX4_changed_355 (lv_at hl 2 rfl) ?_
                        refine lv_iload hx hb dX4_changed_357 (lv_at hl 2 rfl) ?_
                        refine lv_iload hx hb dX4_changed_359 (lv_at hl 4 rfl) ?_
                        refine lv_icmp_lt (tgt := 375) hx hb dX4_changed_361 (by decide) (fun c361 => ?_) (fun c361 => ?_)
                        · skip
                          have c361 : i < 201 := (nc_lt (a := i) (b := 201) (by omega) (by omega)).mp c361
                          refine lv_iconst (v := nI 0) hx hb dX4_changed_375 (by decide) ?_
                          refine q_zast hx hb hK nb1 i (rfl) (by omega) (by decide) (rfl) hS (hA _ (by omega)) dX4_changed_376 (fun H1 locs1 hw9 hz oq hS => ?_)
                          replace ha := ha.ne oq (by omega)
                          have nb1 := hw9
                          refine lv_goto (tgt := 385) hx hb dX4_changed_377 (by decide) ?_
                          refine lv_iinc (v := nI (i + 1)) (lv' := [(6, .int (nI (i + 1))), (8, .int (nI 0)), (7, .int (nI 0)), (5, .int (nI 201)), (4, .int (nI 201)), (3, .int (nI 0)), (2, .ref b1), (0, .ref a), (1, .int (nI how))]) hx hb dX4_changed_385 hl (k := 2) rfl (inc_1 _) (by decide) rfl (fun ls hl => ?_)
                          refine lv_goto (tgt := 126) hx hb dX4_changed_388 (by decide) ?_
                          have e66 : (eN (T 0) 201 (upd (rwI (chC how) i) i (nI 0))) = (eN (T 0) 201 (rwI (chC how) (i + 1))) := by first | (rw [rwI_c (v := chC how) (show nI 1 = chC how from (if_pos (by omega)).symm)]; done) | (rw [rwI_c (v := chC how) (show nI 0 = chC how from (if_neg (by omega)).symm)]; done)
                          exact hnext _ _ _ ⟨hS, lv_sub hl [0, 3, 4, 5, 6, 7, 8] rfl, ha, (by rw [← e66]; exact nb1)⟩
                        · skip
                          have c361 : ¬ (i < 201) := fun q9 => c361 ((nc_lt (a := i) (b := 201) (by omega) (by omega)).mpr q9)
                          omega
                      by_cases e202_6 : how = 6
                      · skip
                        refine lv_tableIn (off := 152) (tgt := 354) hx hb dX4_changed_202 (by rw [e202_6]; decide) (by rw [e202_6]; decide) (by rw [e202_6]; rfl) (by decide) ?_
                        refine lv_aload_n hx hb dX4_changed_354 rfl (lv_at hl 6 rfl) ?_
                        refine lv_iload hx hb dX4_changed_355 (lv_at hl 2 rfl) ?_
                        refine lv_iload hx hb dX4_changed_357 (lv_at hl 2 rfl) ?_
                        refine lv_iload hx hb dX4_changed_359 (lv_at hl 4 rfl) ?_
                        refine lv_icmp_lt (tgt := 375) hx hb dX4_changed_361 (by decide) (fun c361 => ?_) (fun c361 => ?_)
                        · skip
                          have c361 : i < 201 := (nc_lt (a := i) (b := 201) (by omega) (by omega)).mp c361
                          refine lv_iconst (v := nI 0) hx hb dX4_changed_375 (by decide) ?_
                          refine q_zast hx hb hK nb1 i (rfl) (by omega) (by decide) (rfl) hS (hA _ (by omega)) dX4_changed_376 (fun H1 locs1 hw9 hz oq hS => ?_)
                          replace ha := ha.ne oq (by omega)
                          have nb1 := hw9
                          refine lv_goto (tgt := 385) hx hb dX4_changed_377 (by decide) ?_
                          refine lv_iinc (v := nI (i + 1)) (lv' := [(6, .int (nI (i + 1))), (8, .int (nI 0)), (7, .int (nI 0)), (5, .int (nI 201)), (4, .int (nI 201)), (3, .int (nI 0)), (2, .ref b1), (0, .ref a), (1, .int (nI how))]) hx hb dX4_changed_385 hl (k := 2) rfl (inc_1 _) (by decide) rfl (fun ls hl => ?_)
                          refine lv_goto (tgt := 126) hx hb dX4_changed_388 (by decide) ?_
                          have e67 : (eN (T 0) 201 (upd (rwI (chC how) i) i (nI 0))) = (eN (T 0) 201 (rwI (chC how) (i + 1))) := by first | (rw [rwI_c (v := chC how) (show nI 1 = chC how from (if_pos (by omega)).symm)]; done) | (rw [rwI_c (v := chC how) (show nI 0 = chC how from (if_neg (by omega)).symm)]; done)
                          exact hnext _ _ _ ⟨hS, lv_sub hl [0, 3, 4, 5, 6, 7, 8] rfl, ha, (by rw [← e67]; exact nb1)⟩
                        · skip
                          have c361 : ¬ (i < 201) := fun q9 => c361 ((nc_lt (a := i) (b := 201) (by omega) (by omega)).mpr q9)
                          omega
                      refine lv_tableOut (tgt := 380) hx hb dX4_changed_202 (Or.inr (by rw [nI_toInt (by omega)]; omega)) (by decide) ?_
                      refine lv_aload_n hx hb dX4_changed_380 rfl (lv_at hl 6 rfl) ?_
                      refine lv_iload hx hb dX4_changed_381 (lv_at hl 2 rfl) ?_
                      refine lv_iconst (v := nI 0) hx hb dX4_changed_383 (by decide) ?_
                      refine q_zast hx hb hK nb1 i (rfl) (by omega) (by decide) (rfl) hS (hA _ (by omega)) dX4_changed_384 (fun H1 locs1 hw9 hz oq hS => ?_)
                      replace ha := ha.ne oq (by omega)
                      have nb1 := hw9
                      refine lv_iinc (v := nI (i + 1)) (lv' := [(6, .int (nI (i + 1))), (8, .int (nI 0)), (7, .int (nI 0)), (5, .int (nI 201)), (4, .int (nI 201)), (3, .int (nI 0)), (2, .ref b1), (0, .ref a), (1, .int (nI how))]) hx hb dX4_changed_385 hl (k := 2) rfl (inc_1 _) (by decide) rfl (fun ls hl => ?_)
                      refine lv_goto (tgt := 126) hx hb dX4_changed_388 (by decide) ?_
                      have e68 : (eN (T 0) 201 (upd (rwI (chC how) i) i (nI 0))) = (eN (T 0) 201 (rwI (chC how) (i + 1))) := by first | (rw [rwI_c (v := chC how) (show nI 1 = chC how from (if_pos (by omega)).symm)]; done) | (rw [rwI_c (v := chC how) (show nI 0 = chC how from (if_neg (by omega)).symm)]; done)
                      exact hnext _ _ _ ⟨hS, lv_sub hl [0, 3, 4, 5, 6, 7, 8] rfl, ha, (by rw [← e68]; exact nb1)⟩
                    · skip
                      have c174 : ¬ (0 = 0) := fun q9 => c174 ((nc_eq (a := 0) (b := 0) (by omega) (by omega)).mpr q9)
                      omega
                · skip
                  have c153 : ¬ (0 = 0) := fun q9 => c153 ((nc_eq (a := 0) (b := 0) (by omega) (by omega)).mpr q9)
                  omega
          · skip
            intro H locs ls hin9
            obtain ⟨hS, hl, ha, nb1⟩ := hin9
            refine lv_iload hx hb dX4_changed_126 (lv_at hl 0 rfl) ?_
            refine lv_sipush (v := nI 201) hx hb dX4_changed_128 (by decide) ?_
            refine lv_icmp_ge (tgt := 391) hx hb dX4_changed_131 (by decide) (fun c131 => ?_) (fun c131 => ?_)
            · skip
              have c131 : 201 ≤ 201 := (nc_le (a := 201) (b := 201) (by omega) (by omega)).mp c131
              refine lv_aload_n hx hb dX4_changed_391 rfl (lv_at hl 4 rfl) ?_
              exact W.aret (v := .ref b1) hx hb hr (Or.inr ⟨_, rfl⟩) (Or.inr ⟨_, rfl⟩) (fun t ht _ => ⟨⟨(), b1, rfl, trivial, by dsimp only; rw [ht]; exact ⟨by omega, nb1.outN (fun k hk => if_pos hk)⟩⟩, hS.F ht⟩) hS.2.2 dX4_changed_392
            · skip
              have c131 : ¬ (201 ≤ 201) := fun q9 => c131 ((nc_le (a := 201) (b := 201) (by omega) (by omega)).mpr q9)
              omega
        · skip
          have c105 : ¬ (201 ≤ 201) := fun q9 => c105 ((nc_le (a := 201) (b := 201) (by omega) (by omega)).mpr q9)
          omega
    · skip
      have c69 : how = 5 := (nc_eq (a := how) (b := 5) (by omega) (by omega)).mp c69
      omega
  · skip
    have c21 : how = 5 := (nc_eq (a := how) (b := 5) (by omega) (by omega)).mp c21
    refine lv_iload hx hb dX4_changed_24 (lv_at hl 0 rfl) ?_
    refine lv_sipush (v := nI 201) hx hb dX4_changed_26 (by decide) ?_
    refine lv_icmp_ge (tgt := 67) hx hb dX4_changed_29 (by decide) (fun c29 => ?_) (fun c29 => ?_)
    · skip
      have c29 : 201 ≤ 201 := (nc_le (a := 201) (b := 201) (by omega) (by omega)).mp c29
      refine lv_iload_n hx hb dX4_changed_67 rfl (lv_at hl 4 rfl) ?_
      refine lv_iconst (v := nI 5) hx hb dX4_changed_68 (by decide) ?_
      refine lv_icmp_ne (tgt := 90) hx hb dX4_changed_69 (by decide) (fun c69 => ?_) (fun c69 => ?_)
      · skip
        have c69 : ¬ (how = 5) := fun q9 => c69 ((nc_eq (a := how) (b := 5) (by omega) (by omega)).mpr q9)
        omega
      · skip
        have c69 : how = 5 := (nc_eq (a := how) (b := 5) (by omega) (by omega)).mp c69
        refine lv_iload hx hb dX4_changed_72 (lv_at hl 0 rfl) ?_
        refine lv_sipush (v := nI 201) hx hb dX4_changed_74 (by decide) ?_
        refine lv_icmp_ge (tgt := 90) hx hb dX4_changed_77 (by decide) (fun c77 => ?_) (fun c77 => ?_)
        · skip
          have c77 : 201 ≤ 201 := (nc_le (a := 201) (b := 201) (by omega) (by omega)).mp c77
          refine lv_sipush (v := nI 201) hx hb dX4_changed_90 (by decide) ?_
          refine lv_istore (lv' := [(5, .int (nI 201)), (4, .int (nI 201)), (3, .int (nI 0)), (2, .ref b1), (0, .ref a), (1, .int (nI how))]) hx hb dX4_changed_93 hl (by decide) rfl (fun ls hl => ?_)
          refine lv_iload_n hx hb dX4_changed_95 rfl (lv_at hl 5 rfl) ?_
          refine lv_bipush (v := nI 6) hx hb dX4_changed_96 (by decide) ?_
          refine lv_icmp_ne (tgt := 123) hx hb dX4_changed_98 (by decide) (fun c98 => ?_) (fun c98 => ?_)
          · skip
            have c98 : ¬ (how = 6) := fun q9 => c98 ((nc_eq (a := how) (b := 6) (by omega) (by omega)).mpr q9)
            refine lv_iconst (v := nI 0) hx hb dX4_changed_123 (by decide) ?_
            refine lv_istore (lv' := [(6, .int (nI 0)), (5, .int (nI 201)), (4, .int (nI 201)), (3, .int (nI 0)), (2, .ref b1), (0, .ref a), (1, .int (nI how))]) hx hb dX4_changed_124 hl (by decide) rfl (fun ls hl => ?_)
            refine q_for (fun (i : Nat) (H : Heap) (locs : List Loc) (ls : Array Slot) => va_S A s.heap H locs ∧ lv_has ls 9 [(6, .int (nI i)), (5, .int (nI 201)), (4, .int (nI 201)), (3, .int (nI 0)), (2, .ref b1), (0, .ref a), (1, .int (nI how))] ∧ pAt D H a (eN (T 0) 201 zr0) ∧ pAt D H b1 (eN (T 0) 201 (rwI (chC how) i))) (N := 201) 0 (by omega) ?_ ?_ ?_
            · skip
              have e69 : (eN (T 0) 201 zr0) = (eN (T 0) 201 (rwI (chC how) 0)) := by (rw [rwI_0])
              exact ⟨hS, lv_sub hl [0, 1, 2, 3, 4, 5, 6] rfl, ha, (by rw [← e69]; exact nb1)⟩
            · skip
              intro i H locs ls hi9 hin9 hnext
              obtain ⟨hS, hl, ha, nb1⟩ := hin9
              refine lv_iload hx hb dX4_changed_126 (lv_at hl 0 rfl) ?_
              refine lv_sipush (v := nI 201) hx hb dX4_changed_128 (by decide) ?_
              refine lv_icmp_ge (tgt := 391) hx hb dX4_changed_131 (by decide) (fun c131 => ?_) (fun c131 => ?_)
              · skip
                have c131 : 201 ≤ i := (nc_le (a := 201) (b := i) (by omega) (by omega)).mp c131
                omega
              · skip
                have c131 : ¬ (201 ≤ i) := fun q9 => c131 ((nc_le (a := 201) (b := i) (by omega) (by omega)).mpr q9)
                refine lv_aload_n hx hb dX4_changed_134 rfl (lv_at hl 5 rfl) ?_
                refine lv_iload hx hb dX4_changed_135 (lv_at hl 0 rfl) ?_
                refine lv_iconst (v := nI 1) hx hb dX4_changed_137 (by decide) ?_
                refine lv_isub hx hb dX4_changed_138 ?_
                refine vp_callSi (va_runS (As := [.ref a, .int ((nI i) - (nI 1))]) (rest := []) ⟨hx, hb, hml, hown, hts⟩ (conX4_isAt l D T a ((nI i) - (nI 1))) (va_cwS 2 hts gX4_changed_X4_isAt rfl rfl rfl (by decide +kernel) ⟨Nat.le_of_ble_eq_true rfl, Nat.le_of_ble_eq_true rfl⟩) (preS hK ha) rfl rfl hl.1 rfl (lv_room (Nat.le_of_ble_eq_true rfl)) dX4_changed_139 ⟨Nat.le_of_ble_eq_true rfl, Nat.le_of_ble_eq_true rfl⟩).run (fun r70 hr70 => ?_)
                rw [hr70]
                refine lv_if_ne (tgt := 156) hx hb dX4_changed_142 (by decide) (fun c142 => ?_) (fun c142 => ?_)
                · skip
                  have c142 : ¬ (0 = 0) := fun q9 => c142 ((nc_eq (a := 0) (b := 0) (by omega) (by omega)).mpr q9)
                  omega
                · skip
                  have c142 : 0 = 0 := (nc_eq (a := 0) (b := 0) (by omega) (by omega)).mp c142
                  refine lv_aload_n hx hb dX4_changed_145 rfl (lv_at hl 5 rfl) ?_
                  refine lv_iload hx hb dX4_changed_146 (lv_at hl 0 rfl) ?_
                  refine lv_iconst (v := nI 1) hx hb dX4_changed_148 (by decide) ?_
                  refine lv_iadd hx hb dX4_changed_149 ?_
                  rw [nI_add]
                  refine vp_callSi (va_runS (As := [.ref a, .int (nI (i + 1))]) (rest := []) ⟨hx, hb, hml, hown, hts⟩ (conX4_isAt l D T a (nI (i + 1))) (va_cwS 2 hts gX4_changed_X4_isAt rfl rfl rfl (by decide +kernel) ⟨Nat.le_of_ble_eq_true rfl, Nat.le_of_ble_eq_true rfl⟩) (preS hK ha) rfl rfl hl.1 rfl (lv_room (Nat.le_of_ble_eq_true rfl)) dX4_changed_150 ⟨Nat.le_of_ble_eq_true rfl, Nat.le_of_ble_eq_true rfl⟩).run (fun r71 hr71 => ?_)
                  rw [hr71]
                  refine lv_if_eq (tgt := 160) hx hb dX4_changed_153 (by decide) (fun c153 => ?_) (fun c153 => ?_)
                  · skip
                    have c153 : 0 = 0 := (nc_eq (a := 0) (b := 0) (by omega) (by omega)).mp c153
                    refine lv_iconst (v := nI 0) hx hb dX4_changed_160 (by decide) ?_
                    refine lv_istore (lv' := [(7, .int (nI 0)), (6, .int (nI i)), (5, .int (nI 201)), (4, .int (nI 201)), (3, .int (nI 0)), (2, .ref b1), (0, .ref a), (1, .int (nI how))]) hx hb dX4_changed_161 hl (by decide) rfl (fun ls hl => ?_)
                    refine lv_iload hx hb dX4_changed_163 (lv_at hl 1 rfl) ?_
                    refine lv_if_eq (tgt := 177) hx hb dX4_changed_165 (by decide) (fun c165 => ?_) (fun c165 => ?_)
                    · skip
                      have c165 : i = 0 := (nc_eq (a := i) (b := 0) (by omega) (by omega)).mp c165
                      refine lv_iload hx hb dX4_changed_177 (lv_at hl 1 rfl) ?_
                      refine lv_sipush (v := nI 200) hx hb dX4_changed_179 (by decide) ?_
                      refine lv_icmp_eq (tgt := 194) hx hb dX4_changed_182 (by decide) (fun c182 => ?_) (fun c182 => ?_)
                      · skip
                        have c182 : i = 200 := (nc_eq (a := i) (b := 200) (by omega) (by omega)).mp c182
                        refine lv_iconst (v := nI 1) hx hb dX4_changed_194 (by decide) ?_
                        refine lv_goto (tgt := 199) hx hb dX4_changed_195 (by decide) ?_
                        refine lv_istore (lv' := [(8, .int (nI 1)), (7, .int (nI 0)), (6, .int (nI i)), (5, .int (nI 201)), (4, .int (nI 201)), (3, .int (nI 0)), (2, .ref b1), (0, .ref a), (1, .int (nI how))]) hx hb dX4_changed_199 hl (by decide) rfl (fun ls hl => ?_)
                        refine lv_iload_n hx hb dX4_changed_201 rfl (lv_at hl 8 rfl) ?_
                        by_cases e202_0 : how = 0
                        · skip
                          refine lv_tableIn (off := 42) (tgt := 244) hx hb dX4_changed_202 (by rw [e202_0]; decide) (by rw [e202_0]; decide) (by rw [e202_0]; rfl) (by decide) ?_
                          refine lv_aload_n hx hb dX4_changed_244 rfl (lv_at hl 6 rfl) ?_
                          refine lv_iload hx hb dX4_changed_245 (lv_at hl 2 rfl) ?_
                          refine lv_aload_n hx hb dX4_changed_247 rfl (lv_at hl 7 rfl) ?_
                          refine lv_iload hx hb dX4_changed_248 (lv_at hl 2 rfl) ?_
                          refine q_zald hx hb hK ha i (rfl) (by omega) (by decide) dX4_changed_250 ?_
                          refine W.eq (g2 := F0 m 251 ls [.int (nI 0), .int (nI i), .ref b1]) rfl ?_
                          refine lv_if_ne (tgt := 258) hx hb dX4_changed_251 (by decide) (fun c251 => ?_) (fun c251 => ?_)
                          · skip
                            have c251 : ¬ (0 = 0) := fun q9 => c251 ((nc_eq (a := 0) (b := 0) (by omega) (by omega)).mpr q9)
                            omega
                          · skip
                            have c251 : 0 = 0 := (nc_eq (a := 0) (b := 0) (by omega) (by omega)).mp c251
                            refine lv_iconst (v := nI 1) hx hb dX4_changed_254 (by decide) ?_
                            refine lv_goto (tgt := 259) hx hb dX4_changed_255 (by decide) ?_
                            refine q_zast hx hb hK nb1 i (rfl) (by omega) (by decide) (rfl) hS (hA _ (by omega)) dX4_changed_259 (fun H1 locs1 hw9 hz oq hS => ?_)
                            replace ha := ha.ne oq (by omega)
                            have nb1 := hw9
                            refine lv_goto (tgt := 385) hx hb dX4_changed_260 (by decide) ?_
                            refine lv_iinc (v := nI (i + 1)) (lv' := [(6, .int (nI (i + 1))), (8, .int (nI 1)), (7, .int (nI 0)), (5, .int (nI 201)), (4, .int (nI 201)), (3, .int (nI 0)), (2, .ref b1), (0, .ref a), (1, .int (nI how))]) hx hb dX4_changed_385 hl (k := 2) rfl (inc_1 _) (by decide) rfl (fun ls hl => ?_)
                            refine lv_goto (tgt := 126) hx hb dX4_changed_388 (by decide) ?_
                            have e72 : (eN (T 0) 201 (upd (rwI (chC how) i) i (nI 1))) = (eN (T 0) 201 (rwI (chC how) (i + 1))) := by first | (rw [rwI_c (v := chC how) (show nI 1 = chC how from (if_pos (by omega)).symm)]; done) | (rw [rwI_c (v := chC how) (show nI 0 = chC how from (if_neg (by omega)).symm)]; done)
                            exact hnext _ _ _ ⟨hS, lv_sub hl [0, 3, 4, 5, 6, 7, 8] rfl, ha, (by rw [← e72]; exact nb1)⟩
                        by_cases e202_1 : how = 1
                        · skip
                          refine lv_tableIn (off := 61) (tgt := 263) hx hb dX4_changed_202 (by rw [e202_1]; decide) (by rw [e202_1]; decide) (by rw [e202_1]; rfl) (by decide) ?_
                          refine lv_aload_n hx hb dX4_changed_263 rfl (lv_at hl 6 rfl) ?_
                          refine lv_iload hx hb dX4_changed_264 (lv_at hl 2 rfl) ?_
                          refine lv_aload_n hx hb dX4_changed_266 rfl (lv_at hl 7 rfl) ?_
                          refine lv_iload hx hb dX4_changed_267 (lv_at hl 2 rfl) ?_
                          refine q_zald hx hb hK ha i (rfl) (by omega) (by decide) dX4_changed_269 ?_
                          refine W.eq (g2 := F0 m 270 ls [.int (nI 0), .int (nI i), .ref b1]) rfl ?_
                          refine lv_if_eq (tgt := 290) hx hb dX4_changed_270 (by decide) (fun c270 => ?_) (fun c270 => ?_)
                          · skip
                            have c270 : 0 = 0 := (nc_eq (a := 0) (b := 0) (by omega) (by omega)).mp c270
                            refine lv_iconst (v := nI 0) hx hb dX4_changed_290 (by decide) ?_
                            refine q_zast hx hb hK nb1 i (rfl) (by omega) (by decide) (rfl) hS (hA _ (by omega)) dX4_changed_291 (fun H1 locs1 hw9 hz oq hS => ?_)
                            replace ha := ha.ne oq (by omega)
                            have nb1 := hw9
                            refine lv_goto (tgt := 385) hx hb dX4_changed_292 (by decide) ?_
                            refine lv_iinc (v := nI (i + 1)) (lv' := [(6, .int (nI (i + 1))), (8, .int (nI 1)), (7, .int (nI 0)), (5, .int (nI 201)), (4, .int (nI 201)), (3, .int (nI 0)), (2, .ref b1), (0, .ref a), (1, .int (nI how))]) hx hb dX4_changed_385 hl (k := 2) rfl (inc_1 _) (by decide) rfl (fun ls hl => ?_)
                            refine lv_goto (tgt := 126) hx hb dX4_changed_388 (by decide) ?_
                            have e73 : (eN (T 0) 201 (upd (rwI (chC how) i) i (nI 0))) = (eN (T 0) 201 (rwI (chC how) (i + 1))) := by first | (rw [rwI_c (v := chC how) (show nI 1 = chC how from (if_pos (by omega)).symm)]; done) | (rw [rwI_c (v := chC how) (show nI 0 = chC how from (if_neg (by omega)).symm)]; done)
                            exact hnext _ _ _ ⟨hS, lv_sub hl [0, 3, 4, 5, 6, 7, 8] rfl, ha, (by rw [← e73]; exact nb1)⟩
                          · skip
                            have c270 : ¬ (0 = 0) := fun q9 => c270 ((nc_eq (a := 0) (b := 0) (by omega) (by omega)).mpr q9)
                            omega
                        by_cases e202_2 : how = 2
                        · skip
                          refine lv_tableIn (off := 93) (tgt := 295) hx hb dX4_changed_202 (by rw [e202_2]; decide) (by rw [e202_2]; decide) (by rw [e202_2]; rfl) (by decide) ?_
                          refine lv_aload_n hx hb dX4_changed_295 rfl (lv_at hl 6 rfl) ?_
                          refine lv_iload hx hb dX4_changed_296 (lv_at hl 2 rfl) ?_
                          refine lv_aload_n hx hb dX4_changed_298 rfl (lv_at hl 7 rfl) ?_
                          refine lv_iload hx hb dX4_changed_299 (lv_at hl 2 rfl) ?_
                          refine q_zald hx hb hK ha i (rfl) (by omega) (by decide) dX4_changed_301 ?_
                          refine W.eq (g2 := F0 m 302 ls [.int (nI 0), .int (nI i), .ref b1]) rfl ?_
                          refine lv_if_ne (tgt := 317) hx hb dX4_changed_302 (by decide) (fun c302 => ?_) (fun c302 => ?_)
                          · skip
                            have c302 : ¬ (0 = 0) := fun q9 => c302 ((nc_eq (a := 0) (b := 0) (by omega) (by omega)).mpr q9)
                            omega
                          · skip
                            have c302 : 0 = 0 := (nc_eq (a := 0) (b := 0) (by omega) (by omega)).mp c302
                            refine lv_iload hx hb dX4_changed_305 (lv_at hl 2 rfl) ?_
                            refine lv_iconst (v := nI 2) hx hb dX4_changed_307 (by decide) ?_
                            refine lv_irem hx hb dX4_changed_308 (by decide) ?_
                            rw [pk_rem (a := i) (d := 2) (by omega) (by omega) (by omega)]
                            refine lv_if_ne (tgt := 321) hx hb dX4_changed_309 (by decide) (fun c309 => ?_) (fun c309 => ?_)
                            · skip
                              have c309 : ¬ (i % 2 = 0) := fun q9 => c309 ((nc_eq (a := i % 2) (b := 0) (by omega) (by omega)).mpr q9)
                              refine lv_iconst (v := nI 0) hx hb dX4_changed_321 (by decide) ?_
                              refine q_zast hx hb hK nb1 i (rfl) (by omega) (by decide) (rfl) hS (hA _ (by omega)) dX4_changed_322 (fun H1 locs1 hw9 hz oq hS => ?_)
                              replace ha := ha.ne oq (by omega)
                              have nb1 := hw9
                              refine lv_goto (tgt := 385) hx hb dX4_changed_323 (by decide) ?_
                              refine lv_iinc (v := nI (i + 1)) (lv' := [(6, .int (nI (i + 1))), (8, .int (nI 1)), (7, .int (nI 0)), (5, .int (nI 201)), (4, .int (nI 201)), (3, .int (nI 0)), (2, .ref b1), (0, .ref a), (1, .int (nI how))]) hx hb dX4_changed_385 hl (k := 2) rfl (inc_1 _) (by decide) rfl (fun ls hl => ?_)
                              refine lv_goto (tgt := 126) hx hb dX4_changed_388 (by decide) ?_
                              have e74 : (eN (T 0) 201 (upd (rwI (chC how) i) i (nI 0))) = (eN (T 0) 201 (rwI (chC how) (i + 1))) := by first | (rw [rwI_c (v := chC how) (show nI 1 = chC how from (if_pos (by omega)).symm)]; done) | (rw [rwI_c (v := chC how) (show nI 0 = chC how from (if_neg (by omega)).symm)]; done)
                              exact hnext _ _ _ ⟨hS, lv_sub hl [0, 3, 4, 5, 6, 7, 8] rfl, ha, (by rw [← e74]; exact nb1)⟩
                            · skip
                              have c309 : i % 2 = 0 := (nc_eq (a := i % 2) (b := 0) (by omega) (by omega)).mp c309
                              refine lv_iload hx hb dX4_changed_312 (lv_at hl 1 rfl) ?_
                              refine lv_if_eq (tgt := 321) hx hb dX4_changed_314 (by decide) (fun c314 => ?_) (fun c314 => ?_)
                              · skip
                                have c314 : 0 = 0 := (nc_eq (a := 0) (b := 0) (by omega) (by omega)).mp c314
                                refine lv_iconst (v := nI 0) hx hb dX4_changed_321 (by decide) ?_
                                refine q_zast hx hb hK nb1 i (rfl) (by omega) (by decide) (rfl) hS (hA _ (by omega)) dX4_changed_322 (fun H1 locs1 hw9 hz oq hS => ?_)
                                replace ha := ha.ne oq (by omega)
                                have nb1 := hw9
                                refine lv_goto (tgt := 385) hx hb dX4_changed_323 (by decide) ?_
                                refine lv_iinc (v := nI (i + 1)) (lv' := [(6, .int (nI (i + 1))), (8, .int (nI 1)), (7, .int (nI 0)), (5, .int (nI 201)), (4, .int (nI 201)), (3, .int (nI 0)), (2, .ref b1), (0, .ref a), (1, .int (nI how))]) hx hb dX4_changed_385 hl (k := 2) rfl (inc_1 _) (by decide) rfl (fun ls hl => ?_)
                                refine lv_goto (tgt := 126) hx hb dX4_changed_388 (by decide) ?_
                                have e75 : (eN (T 0) 201 (upd (rwI (chC how) i) i (nI 0))) = (eN (T 0) 201 (rwI (chC how) (i + 1))) := by first | (rw [rwI_c (v := chC how) (show nI 1 = chC how from (if_pos (by omega)).symm)]; done) | (rw [rwI_c (v := chC how) (show nI 0 = chC how from (if_neg (by omega)).symm)]; done)
                                exact hnext _ _ _ ⟨hS, lv_sub hl [0, 3, 4, 5, 6, 7, 8] rfl, ha, (by rw [← e75]; exact nb1)⟩
                              · skip
                                have c314 : ¬ (0 = 0) := fun q9 => c314 ((nc_eq (a := 0) (b := 0) (by omega) (by omega)).mpr q9)
                                omega
                        by_cases e202_3 : how = 3
                        · skip
                          refine lv_tableIn (off := 124) (tgt := 326) hx hb dX4_changed_202 (by rw [e202_3]; decide) (by rw [e202_3]; decide) (by rw [e202_3]; rfl) (by decide) ?_
                          refine lv_aload_n hx hb dX4_changed_326 rfl (lv_at hl 6 rfl) ?_
                          refine lv_iload hx hb dX4_changed_327 (lv_at hl 2 rfl) ?_
                          refine lv_aload_n hx hb dX4_changed_329 rfl (lv_at hl 7 rfl) ?_
                          refine lv_iload hx hb dX4_changed_330 (lv_at hl 2 rfl) ?_
                          refine vp_callSi (va_runS (As := [.ref a, .int (nI i)]) (rest := [.int (nI i), .ref b1]) ⟨hx, hb, hml, hown, hts⟩ (conX4_isAlone l D T a i (by omega)) (va_cwS 2 hts gX4_changed_X4_isAlone rfl rfl rfl (by decide +kernel) ⟨Nat.le_of_ble_eq_true rfl, Nat.le_of_ble_eq_true rfl⟩) (preS hK ha) rfl rfl hl.1 rfl (lv_room (Nat.le_of_ble_eq_true rfl)) dX4_changed_332 ⟨Nat.le_of_ble_eq_true rfl, Nat.le_of_ble_eq_true rfl⟩).run (fun r76 hr76 => ?_)
                          rw [hr76]
                          refine q_zast hx hb hK nb1 i (rfl) (by omega) (by decide) (rfl) hS (hA _ (by omega)) dX4_changed_335 (fun H1 locs1 hw9 hz oq hS => ?_)
                          replace ha := ha.ne oq (by omega)
                          have nb1 := hw9
                          refine lv_goto (tgt := 385) hx hb dX4_changed_336 (by decide) ?_
                          refine lv_iinc (v := nI (i + 1)) (lv' := [(6, .int (nI (i + 1))), (8, .int (nI 1)), (7, .int (nI 0)), (5, .int (nI 201)), (4, .int (nI 201)), (3, .int (nI 0)), (2, .ref b1), (0, .ref a), (1, .int (nI how))]) hx hb dX4_changed_385 hl (k := 2) rfl (inc_1 _) (by decide) rfl (fun ls hl => ?_)
                          refine lv_goto (tgt := 126) hx hb dX4_changed_388 (by decide) ?_
                          have e77 : (eN (T 0) 201 (upd (rwI (chC how) i) i (nI 0))) = (eN (T 0) 201 (rwI (chC how) (i + 1))) := by first | (rw [rwI_c (v := chC how) (show nI 1 = chC how from (if_pos (by omega)).symm)]; done) | (rw [rwI_c (v := chC how) (show nI 0 = chC how from (if_neg (by omega)).symm)]; done)
                          exact hnext _ _ _ ⟨hS, lv_sub hl [0, 3, 4, 5, 6, 7, 8] rfl, ha, (by rw [← e77]; exact nb1)⟩
                        by_cases e202_4 : how = 4
                        · skip
                          refine lv_tableIn (off := 137) (tgt := 339) hx hb dX4_changed_202 (by rw [e202_4]; decide) (by rw [e202_4]; decide) (by rw [e202_4]; rfl) (by decide) ?_
                          refine lv_aload_n hx hb dX4_changed_339 rfl (lv_at hl 6 rfl) ?_
                          refine lv_iload hx hb dX4_changed_340 (lv_at hl 2 rfl) ?_
                          refine lv_aload_n hx hb dX4_changed_342 rfl (lv_at hl 7 rfl) ?_
                          refine lv_sipush (v := nI 200) hx hb dX4_changed_343 (by decide) ?_
                          refine lv_iload hx hb dX4_changed_346 (lv_at hl 2 rfl) ?_
                          refine lv_isub hx hb dX4_changed_348 ?_
                          rw [pk_sub (a := 200) (b := i) (by omega)]
                          refine q_zald hx hb hK ha (200 - i) (rfl) (by omega) (by decide) dX4_changed_349 ?_
                          refine W.eq (g2 := F0 m 350 ls [.int (nI 0), .int (nI i), .ref b1]) rfl ?_
                          refine q_zast hx hb hK nb1 i (rfl) (by omega) (by decide) (rfl) hS (hA _ (by omega)) dX4_changed_350 (fun H1 locs1 hw9 hz oq hS => ?_)
                          replace ha := ha.ne oq (by omega)
                          have nb1 := hw9
                          refine lv_goto (tgt := 385) hx hb dX4_changed_351 (by decide) ?_
                          refine lv_iinc (v := nI (i + 1)) (lv' := [(6, .int (nI (i + 1))), (8, .int (nI 1)), (7, .int (nI 0)), (5, .int (nI 201)), (4, .int (nI 201)), (3, .int (nI 0)), (2, .ref b1), (0, .ref a), (1, .int (nI how))]) hx hb dX4_changed_385 hl (k := 2) rfl (inc_1 _) (by decide) rfl (fun ls hl => ?_)
                          refine lv_goto (tgt := 126) hx hb dX4_changed_388 (by decide) ?_
                          have e78 : (eN (T 0) 201 (upd (rwI (chC how) i) i (nI 0))) = (eN (T 0) 201 (rwI (chC how) (i + 1))) := by first | (rw [rwI_c (v := chC how) (show nI 1 = chC how from (if_pos (by omega)).symm)]; done) | (rw [rwI_c (v := chC how) (show nI 0 = chC how from (if_neg (by omega)).symm)]; done)
                          exact hnext _ _ _ ⟨hS, lv_sub hl [0, 3, 4, 5, 6, 7, 8] rfl, ha, (by rw [← e78]; exact nb1)⟩
                        by_cases e202_5 : how = 5
                        · skip
                          refine lv_tableIn (off := 152) (tgt := 354) hx hb dX4_changed_202 (by rw [e202_5]; decide) (by rw [e202_5]; decide) (by rw [e202_5]; rfl) (by decide) ?_
                          refine lv_aload_n hx hb dX4_changed_354 rfl (lv_at hl 6 rfl) ?_
                          refine lv_iload hx hb dX4_changed_355 (lv_at hl 2 rfl) ?_
                          refine lv_iload hx hb dX4_changed_357 (lv_at hl 2 rfl) ?_
                          refine lv_iload hx hb dX4_changed_359 (lv_at hl 4 rfl) ?_
                          refine lv_icmp_lt (tgt := 375) hx hb dX4_changed_361 (by decide) (fun c361 => ?_) (fun c361 => ?_)
                          · skip
                            have c361 : i < 201 := (nc_lt (a := i) (b := 201) (by omega) (by omega)).mp c361
                            refine lv_iconst (v := nI 0) hx hb dX4_changed_375 (by decide) ?_
                            refine q_zast hx hb hK nb1 i (rfl) (by omega) (by decide) (rfl) hS (hA _ (by omega)) dX4_changed_376 (fun H1 locs1 hw9 hz oq hS => ?_)
                            replace ha := ha.ne oq (by omega)
                            have nb1 := hw9
                            refine lv_goto (tgt := 385) hx hb dX4_changed_377 (by decide) ?_
                            refine lv_iinc (v := nI (i + 1)) (lv' := [(6, .int (nI (i + 1))), (8, .int (nI 1)), (7, .int (nI 0)), (5, .int (nI 201)), (4, .int (nI 201)), (3, .int (nI 0)), (2, .ref b1), (0, .ref a), (1, .int (nI how))]) hx hb dX4_changed_385 hl (k := 2) rfl (inc_1 _) (by decide) rfl (fun ls hl => ?_)
                            refine lv_goto (tgt := 126) hx hb dX4_changed_388 (by decide) ?_
                            have e79 : (eN (T 0) 201 (upd (rwI (chC how) i) i (nI 0))) = (eN (T 0) 201 (rwI (chC how) (i + 1))) := by first | (rw [rwI_c (v := chC how) (show nI 1 = chC how from (if_pos (by omega)).symm)]; done) | (rw [rwI_c (v := chC how) (show nI 0 = chC how from (if_neg (by omega)).symm)]; done)
                            exact hnext _ _ _ ⟨hS, lv_sub hl [0, 3, 4, 5, 6, 7, 8] rfl, ha, (by rw [← e79]; exact nb1)⟩
                          · skip
                            have c361 : ¬ (i < 201) := fun q9 => c361 ((nc_lt (a := i) (b := 201) (by omega) (by omega)).mpr q9)
                            omega
                        by_cases e202_6 : how = 6
                        · skip
                          refine lv_tableIn (off := 152) (tgt := 354) hx hb dX4_changed_202 (by rw [e202_6]; decide) (by rw [e202_6]; decide) (by rw [e202_6]; rfl) (by decide) ?_
                          refine lv_aload_n hx hb dX4_changed_354 rfl (lv_at hl 6 rfl) ?_
                          refine lv_iload hx hb dX4_changed_355 (lv_at hl 2 rfl) ?_
                          refine lv_iload hx hb dX4_changed_357 (lv_at hl 2 rfl) ?_
                          refine lv_iload hx hb dX4_changed_359 (lv_at hl 4 rfl) ?_
                          refine lv_icmp_lt (tgt := 375) hx hb dX4_changed_361 (by decide) (fun c361 => ?_) (fun c361 => ?_)
                          · skip
                            have c361 : i < 201 := (nc_lt (a := i) (b := 201) (by omega) (by omega)).mp c361
                            refine lv_iconst (v := nI 0) hx hb dX4_changed_375 (by decide) ?_
                            refine q_zast hx hb hK nb1 i (rfl) (by omega) (by decide) (rfl) hS (hA _ (by omega)) dX4_changed_376 (fun H1 locs1 hw9 hz oq hS => ?_)
                            replace ha := ha.ne oq (by omega)
                            have nb1 := hw9
                            refine lv_goto (tgt := 385) hx hb dX4_changed_377 (by decide) ?_
                            refine lv_iinc (v := nI (i + 1)) (lv' := [(6, .int (nI (i + 1))), (8, .int (nI 1)), (7, .int (nI 0)), (5, .int (nI 201)), (4, .int (nI 201)), (3, .int (nI 0)), (2, .ref b1), (0, .ref a), (1, .int (nI how))]) hx hb dX4_changed_385 hl (k := 2) rfl (inc_1 _) (by decide) rfl (fun ls hl => ?_)
                            refine lv_goto (tgt := 126) hx hb dX4_changed_388 (by decide) ?_
                            have e80 : (eN (T 0) 201 (upd (rwI (chC how) i) i (nI 0))) = (eN (T 0) 201 (rwI (chC how) (i + 1))) := by first | (rw [rwI_c (v := chC how) (show nI 1 = chC how from (if_pos (by omega)).symm)]; done) | (rw [rwI_c (v := chC how) (show nI 0 = chC how from (if_neg (by omega)).symm)]; done)
                            exact hnext _ _ _ ⟨hS, lv_sub hl [0, 3, 4, 5, 6, 7, 8] rfl, ha, (by rw [← e80]; exact nb1)⟩
                          · skip
                            have c361 : ¬ (i < 201) := fun q9 => c361 ((nc_lt (a := i) (b := 201) (by omega) (by omega)).mpr q9)
                            omega
                        refine lv_tableOut (tgt := 380) hx hb dX4_changed_202 (Or.inr (by rw [nI_toInt (by omega)]; omega)) (by decide) ?_
                        refine lv_aload_n hx hb dX4_changed_380 rfl (lv_at hl 6 rfl) ?_
                        refine lv_iload hx hb dX4_changed_381 (lv_at hl 2 rfl) ?_
                        refine lv_iconst (v := nI 0) hx hb dX4_changed_383 (by decide) ?_
                        refine q_zast hx hb hK nb1 i (rfl) (by omega) (by decide) (rfl) hS (hA _ (by omega)) dX4_changed_384 (fun H1 locs1 hw9 hz oq hS => ?_)
                        replace ha := ha.ne oq (by omega)
                        have nb1 := hw9
                        refine lv_iinc (v := nI (i + 1)) (lv' := [(6, .int (nI (i + 1))), (8, .int (nI 1)), (7, .int (nI 0)), (5, .int (nI 201)), (4, .int (nI 201)), (3, .int (nI 0)), (2, .ref b1), (0, .ref a), (1, .int (nI how))]) hx hb dX4_changed_385 hl (k := 2) rfl (inc_1 _) (by decide) rfl (fun ls hl => ?_)
                        refine lv_goto (tgt := 126) hx hb dX4_changed_388 (by decide) ?_
                        have e81 : (eN (T 0) 201 (upd (rwI (chC how) i) i (nI 0))) = (eN (T 0) 201 (rwI (chC how) (i + 1))) := by first | (rw [rwI_c (v := chC how) (show nI 1 = chC how from (if_pos (by omega)).symm)]; done) | (rw [rwI_c (v := chC how) (show nI 0 = chC how from (if_neg (by omega)).symm)]; done)
                        exact hnext _ _ _ ⟨hS, lv_sub hl [0, 3, 4, 5, 6, 7, 8] rfl, ha, (by rw [← e81]; exact nb1)⟩
                      · skip
                        have c182 : ¬ (i = 200) := fun q9 => c182 ((nc_eq (a := i) (b := 200) (by omega) (by omega)).mpr q9)
                        refine lv_aload_n hx hb dX4_changed_185 rfl (lv_at hl 6 rfl) ?_
                        refine lv_iload hx hb dX4_changed_186 (lv_at hl 1 rfl) ?_
                        refine lv_iconst (v := nI 1) hx hb dX4_changed_188 (by decide) ?_
                        refine lv_iadd hx hb dX4_changed_189 ?_
                        rw [nI_add]
                        refine q_zald hx hb hK ha (i + 1) (rfl) (by omega) (by decide) dX4_changed_190 ?_
                        refine W.eq (g2 := F0 m 191 ls [.int (nI 0)]) rfl ?_
                        refine lv_if_eq (tgt := 198) hx hb dX4_changed_191 (by decide) (fun c191 => ?_) (fun c191 => ?_)
                        · skip
                          have c191 : 0 = 0 := (nc_eq (a := 0) (b := 0) (by omega) (by omega)).mp c191
                          refine lv_iconst (v := nI 0) hx hb dX4_changed_198 (by decide) ?_
                          refine lv_istore (lv' := [(8, .int (nI 0)), (7, .int (nI 0)), (6, .int (nI i)), (5, .int (nI 201)), (4, .int (nI 201)), (3, .int (nI 0)), (2, .ref b1), (0, .ref a), (1, .int (nI how))]) hx hb dX4_changed_199 hl (by decide) rfl (fun ls hl => ?_)
                          refine lv_iload_n hx hb dX4_changed_201 rfl (lv_at hl 8 rfl) ?_
                          by_cases e202_0 : how = 0
                          · skip
                            refine lv_tableIn (off := 42) (tgt := 244) hx hb dX4_changed_202 (by rw [e202_0]; decide) (by rw [e202_0]; decide) (by rw [e202_0]; rfl) (by decide) ?_
                            refine lv_aload_n hx hb dX4_changed_244 rfl (lv_at hl 6 rfl) ?_
                            refine lv_iload hx hb dX4_changed_245 (lv_at hl 2 rfl) ?_
                            refine lv_aload_n hx hb dX4_changed_247 rfl (lv_at hl 7 rfl) ?_
                            refine lv_iload hx hb dX4_changed_248 (lv_at hl 2 rfl) ?_
                            refine q_zald hx hb hK ha i (rfl) (by omega) (by decide) dX4_changed_250 ?_
                            refine W.eq (g2 := F0 m 251 ls [.int (nI 0), .int (nI i), .ref b1]) rfl ?_
                            refine lv_if_ne (tgt := 258) hx hb dX4_changed_251 (by decide) (fun c251 => ?_) (fun c251 => ?_)
                            · skip
                              have c251 : ¬ (0 = 0) := fun q9 => c251 ((nc_eq (a := 0) (b := 0) (by omega) (by omega)).mpr q9)
                              omega
                            · skip
                              have c251 : 0 = 0 := (nc_eq (a := 0) (b := 0) (by omega) (by omega)).mp c251
                              refine lv_iconst (v := nI 1) hx hb dX4_changed_254 (by decide) ?_
                              refine lv_goto (tgt := 259) hx hb dX4_changed_255 (by decide) ?_
                              refine q_zast hx hb hK nb1 i (rfl) (by omega) (by decide) (rfl) hS (hA _ (by omega)) dX4_changed_259 (fun H1 locs1 hw9 hz oq hS => ?_)
                              replace ha := ha.ne oq (by omega)
                              have nb1 := hw9
                              refine lv_goto (tgt := 385) hx hb dX4_changed_260 (by decide) ?_
                              refine lv_iinc (v := nI (i + 1)) (lv' := [(6, .int (nI (i + 1))), (8, .int (nI 0)), (7, .int (nI 0)), (5, .int (nI 201)), (4, .int (nI 201)), (3, .int (nI 0)), (2, .ref b1), (0, .ref a), (1, .int (nI how))]) hx hb dX4_changed_385 hl (k := 2) rfl (inc_1 _) (by decide) rfl (fun ls hl => ?_)
                              refine lv_goto (tgt := 126) hx hb dX4_changed_388 (by decide) ?_
                              have e82 : (eN (T 0) 201 (upd (rwI (chC how) i) i (nI 1))) = (eN (T 0) 201 (rwI (chC how) (i + 1))) := by first | (rw [rwI_c (v := chC how) (show nI 1 = chC how from (if_pos (by omega)).symm)]; done) | (rw [rwI_c (v := chC how) (show nI 0 = chC how from (if_neg (by omega)).symm)]; done)
                              exact hnext _ _ _ ⟨hS, lv_sub hl [0, 3, 4, 5, 6, 7, 8] rfl, ha, (by rw [← e82]; exact nb1)⟩
                          by_cases e202_1 : how = 1
                          · skip
                            refine lv_tableIn (off := 61) (tgt := 263) hx hb dX4_changed_202 (by rw [e202_1]; decide) (by rw [e202_1]; decide) (by rw [e202_1]; rfl) (by decide) ?_
                            refine lv_aload_n hx hb dX4_changed_263 rfl (lv_at hl 6 rfl) ?_
                            refine lv_iload hx hb dX4_changed_264 (lv_at hl 2 rfl) ?_
                            refine lv_aload_n hx hb dX4_changed_266 rfl (lv_at hl 7 rfl) ?_
                            refine lv_iload hx hb dX4_changed_267 (lv_at hl 2 rfl) ?_
                            refine q_zald hx hb hK ha i (rfl) (by omega) (by decide) dX4_changed_269 ?_
                            refine W.eq (g2 := F0 m 270 ls [.int (nI 0), .int (nI i), .ref b1]) rfl ?_
                            refine lv_if_eq (tgt := 290) hx hb dX4_changed_270 (by decide) (fun c270 => ?_) (fun c270 => ?_)
                            · skip
                              have c270 : 0 = 0 := (nc_eq (a := 0) (b := 0) (by omega) (by omega)).mp c270
                              refine lv_iconst (v := nI 0) hx hb dX4_changed_290 (by decide) ?_
                              refine q_zast hx hb hK nb1 i (rfl) (by omega) (by decide) (rfl) hS (hA _ (by omega)) dX4_changed_291 (fun H1 locs1 hw9 hz oq hS => ?_)
                              replace ha := ha.ne oq (by omega)
                              have nb1 := hw9
                              refine lv_goto (tgt := 385) hx hb dX4_changed_292 (by decide) ?_
                              refine lv_iinc (v := nI (i + 1)) (lv' := [(6, .int (nI (i + 1))), (8, .int (nI 0)), (7, .int (nI 0)), (5, .int (nI 201)), (4, .int (nI 201)), (3, .int (nI 0)), (2, .ref b1), (0, .ref a), (1, .int (nI how))]) hx hb dX4_changed_385 hl (k := 2) rfl (inc_1 _) (by decide) rfl (fun ls hl => ?_)
                              refine lv_goto (tgt := 126) hx hb dX4_changed_388 (by decide) ?_
                              have e83 : (eN (T 0) 201 (upd (rwI (chC how) i) i (nI 0))) = (eN (T 0) 201 (rwI (chC how) (i + 1))) := by first | (rw [rwI_c (v := chC how) (show nI 1 = chC how from (if_pos (by omega)).symm)]; done) | (rw [rwI_c (v := chC how) (show nI 0 = chC how from (if_neg (by omega)).symm)]; done)
                              exact hnext _ _ _ ⟨hS, lv_sub hl [0, 3, 4, 5, 6, 7, 8] rfl, ha, (by rw [← e83]; exact nb1)⟩
                            · skip
                              have c270 : ¬ (0 = 0) := fun q9 => c270 ((nc_eq (a := 0) (b := 0) (by omega) (by omega)).mpr q9)
                              omega
                          by_cases e202_2 : how = 2
                          · skip
                            refine lv_tableIn (off := 93) (tgt := 295) hx hb dX4_changed_202 (by rw [e202_2]; decide) (by rw [e202_2]; decide) (by rw [e202_2]; rfl) (by decide) ?_
                            refine lv_aload_n hx hb dX4_changed_295 rfl (lv_at hl 6 rfl) ?_
                            refine lv_iload hx hb dX4_changed_296 (lv_at hl 2 rfl) ?_
                            refine lv_aload_n hx hb dX4_changed_298 rfl (lv_at hl 7 rfl) ?_
                            refine lv_iload hx hb dX4_changed_299 (lv_at hl 2 rfl) ?_
                            refine q_zald hx hb hK ha i (rfl) (by omega) (by decide) dX4_changed_301 ?_
                            refine W.eq (g2 := F0 m 302 ls [.int (nI 0), .int (nI i), .ref b1]) rfl ?_
                            refine lv_if_ne (tgt := 317) hx hb dX4_changed_302 (by decide) (fun c302 => ?_) (fun c302 => ?_)
                            · skip
                              have c302 : ¬ (0 = 0) := fun q9 => c302 ((nc_eq (a := 0) (b := 0) (by omega) (by omega)).mpr q9)
                              omega
                            · skip
                              have c302 : 0 = 0 := (nc_eq (a := 0) (b := 0) (by omega) (by omega)).mp c302
                              refine lv_iload hx hb dX4_changed_305 (lv_at hl 2 rfl) ?_
                              refine lv_iconst (v := nI 2) hx hb dX4_changed_307 (by decide) ?_
                              refine lv_irem hx hb dX4_changed_308 (by decide) ?_
                              rw [pk_rem (a := i) (d := 2) (by omega) (by omega) (by omega)]
                              refine lv_if_ne (tgt := 321) hx hb dX4_changed_309 (by decide) (fun c309 => ?_) (fun c309 => ?_)
                              · skip
                                have c309 : ¬ (i % 2 = 0) := fun q9 => c309 ((nc_eq (a := i % 2) (b := 0) (by omega) (by omega)).mpr q9)
                                refine lv_iconst (v := nI 0) hx hb dX4_changed_321 (by decide) ?_
                                refine q_zast hx hb hK nb1 i (rfl) (by omega) (by decide) (rfl) hS (hA _ (by omega)) dX4_changed_322 (fun H1 locs1 hw9 hz oq hS => ?_)
                                replace ha := ha.ne oq (by omega)
                                have nb1 := hw9
                                refine lv_goto (tgt := 385) hx hb dX4_changed_323 (by decide) ?_
                                refine lv_iinc (v := nI (i + 1)) (lv' := [(6, .int (nI (i + 1))), (8, .int (nI 0)), (7, .int (nI 0)), (5, .int (nI 201)), (4, .int (nI 201)), (3, .int (nI 0)), (2, .ref b1), (0, .ref a), (1, .int (nI how))]) hx hb dX4_changed_385 hl (k := 2) rfl (inc_1 _) (by decide) rfl (fun ls hl => ?_)
                                refine lv_goto (tgt := 126) hx hb dX4_changed_388 (by decide) ?_
                                have e84 : (eN (T 0) 201 (upd (rwI (chC how) i) i (nI 0))) = (eN (T 0) 201 (rwI (chC how) (i + 1))) := by first | (rw [rwI_c (v := chC how) (show nI 1 = chC how from (if_pos (by omega)).symm)]; done) | (rw [rwI_c (v := chC how) (show nI 0 = chC how from (if_neg (by omega)).symm)]; done)
                                exact hnext _ _ _ ⟨hS, lv_sub hl [0, 3, 4, 5, 6, 7, 8] rfl, ha, (by rw [← e84]; exact nb1)⟩
                              · skip
                                have c309 : i % 2 = 0 := (nc_eq (a := i % 2) (b := 0) (by omega) (by omega)).mp c309
                                refine lv_iload hx hb dX4_changed_312 (lv_at hl 1 rfl) ?_
                                refine lv_if_eq (tgt := 321) hx hb dX4_changed_314 (by decide) (fun c314 => ?_) (fun c314 => ?_)
                                · skip
                                  have c314 : 0 = 0 := (nc_eq (a := 0) (b := 0) (by omega) (by omega)).mp c314
                                  refine lv_iconst (v := nI 0) hx hb dX4_changed_321 (by decide) ?_
                                  refine q_zast hx hb hK nb1 i (rfl) (by omega) (by decide) (rfl) hS (hA _ (by omega)) dX4_changed_322 (fun H1 locs1 hw9 hz oq hS => ?_)
                                  replace ha := ha.ne oq (by omega)
                                  have nb1 := hw9
                                  refine lv_goto (tgt := 385) hx hb dX4_changed_323 (by decide) ?_
                                  refine lv_iinc (v := nI (i + 1)) (lv' := [(6, .int (nI (i + 1))), (8, .int (nI 0)), (7, .int (nI 0)), (5, .int (nI 201)), (4, .int (nI 201)), (3, .int (nI 0)), (2, .ref b1), (0, .ref a), (1, .int (nI how))]) hx hb dX4_changed_385 hl (k := 2) rfl (inc_1 _) (by decide) rfl (fun ls hl => ?_)
                                  refine lv_goto (tgt := 126) hx hb dX4_changed_388 (by decide) ?_
                                  have e85 : (eN (T 0) 201 (upd (rwI (chC how) i) i (nI 0))) = (eN (T 0) 201 (rwI (chC how) (i + 1))) := by first | (rw [rwI_c (v := chC how) (show nI 1 = chC how from (if_pos (by omega)).symm)]; done) | (rw [rwI_c (v := chC how) (show nI 0 = chC how from (if_neg (by omega)).symm)]; done)
                                  exact hnext _ _ _ ⟨hS, lv_sub hl [0, 3, 4, 5, 6, 7, 8] rfl, ha, (by rw [← e85]; exact nb1)⟩
                                · skip
                                  have c314 : ¬ (0 = 0) := fun q9 => c314 ((nc_eq (a := 0) (b := 0) (by omega) (by omega)).mpr q9)
                                  omega
                          by_cases e202_3 : how = 3
                          · skip
                            refine lv_tableIn (off := 124) (tgt := 326) hx hb dX4_changed_202 (by rw [e202_3]; decide) (by rw [e202_3]; decide) (by rw [e202_3]; rfl) (by decide) ?_
                            refine lv_aload_n hx hb dX4_changed_326 rfl (lv_at hl 6 rfl) ?_
                            refine lv_iload hx hb dX4_changed_327 (lv_at hl 2 rfl) ?_
                            refine lv_aload_n hx hb dX4_changed_329 rfl (lv_at hl 7 rfl) ?_
                            refine lv_iload hx hb dX4_changed_330 (lv_at hl 2 rfl) ?_
                            refine vp_callSi (va_runS (As := [.ref a, .int (nI i)]) (rest := [.int (nI i), .ref b1]) ⟨hx, hb, hml, hown, hts⟩ (conX4_isAlone l D T a i (by omega)) (va_cwS 2 hts gX4_changed_X4_isAlone rfl rfl rfl (by decide +kernel) ⟨Nat.le_of_ble_eq_true rfl, Nat.le_of_ble_eq_true rfl⟩) (preS hK ha) rfl rfl hl.1 rfl (lv_room (Nat.le_of_ble_eq_true rfl)) dX4_changed_332 ⟨Nat.le_of_ble_eq_true rfl, Nat.le_of_ble_eq_true rfl⟩).run (fun r86 hr86 => ?_)
                            rw [hr86]
                            refine q_zast hx hb hK nb1 i (rfl) (by omega) (by decide) (rfl) hS (hA _ (by omega)) dX4_changed_335 (fun H1 locs1 hw9 hz oq hS => ?_)
                            replace ha := ha.ne oq (by omega)
                            have nb1 := hw9
                            refine lv_goto (tgt := 385) hx hb dX4_changed_336 (by decide) ?_
                            refine lv_iinc (v := nI (i + 1)) (lv' := [(6, .int (nI (i + 1))), (8, .int (nI 0)), (7, .int (nI 0)), (5, .int (nI 201)), (4, .int (nI 201)), (3, .int (nI 0)), (2, .ref b1), (0, .ref a), (1, .int (nI how))]) hx hb dX4_changed_385 hl (k := 2) rfl (inc_1 _) (by decide) rfl (fun ls hl => ?_)
                            refine lv_goto (tgt := 126) hx hb dX4_changed_388 (by decide) ?_
                            have e87 : (eN (T 0) 201 (upd (rwI (chC how) i) i (nI 0))) = (eN (T 0) 201 (rwI (chC how) (i + 1))) := by first | (rw [rwI_c (v := chC how) (show nI 1 = chC how from (if_pos (by omega)).symm)]; done) | (rw [rwI_c (v := chC how) (show nI 0 = chC how from (if_neg (by omega)).symm)]; done)
                            exact hnext _ _ _ ⟨hS, lv_sub hl [0, 3, 4, 5, 6, 7, 8] rfl, ha, (by rw [← e87]; exact nb1)⟩
                          by_cases e202_4 : how = 4
                          · skip
                            refine lv_tableIn (off := 137) (tgt := 339) hx hb dX4_changed_202 (by rw [e202_4]; decide) (by rw [e202_4]; decide) (by rw [e202_4]; rfl) (by decide) ?_
                            refine lv_aload_n hx hb dX4_changed_339 rfl (lv_at hl 6 rfl) ?_
                            refine lv_iload hx hb dX4_changed_340 (lv_at hl 2 rfl) ?_
                            refine lv_aload_n hx hb dX4_changed_342 rfl (lv_at hl 7 rfl) ?_
                            refine lv_sipush (v := nI 200) hx hb dX4_changed_343 (by decide) ?_
                            refine lv_iload hx hb dX4_changed_346 (lv_at hl 2 rfl) ?_
                            refine lv_isub hx hb dX4_changed_348 ?_
                            rw [pk_sub (a := 200) (b := i) (by omega)]
                            refine q_zald hx hb hK ha (200 - i) (rfl) (by omega) (by decide) dX4_changed_349 ?_
                            refine W.eq (g2 := F0 m 350 ls [.int (nI 0), .int (nI i), .ref b1]) rfl ?_
                            refine q_zast hx hb hK nb1 i (rfl) (by omega) (by decide) (rfl) hS (hA _ (by omega)) dX4_changed_350 (fun H1 locs1 hw9 hz oq hS => ?_)
                            replace ha := ha.ne oq (by omega)
                            have nb1 := hw9
                            refine lv_goto (tgt := 385) hx hb dX4_changed_351 (by decide) ?_
                            refine lv_iinc (v := nI (i + 1)) (lv' := [(6, .int (nI (i + 1))), (8, .int (nI 0)), (7, .int (nI 0)), (5, .int (nI 201)), (4, .int (nI 201)), (3, .int (nI 0)), (2, .ref b1), (0, .ref a), (1, .int (nI how))]) hx hb dX4_changed_385 hl (k := 2) rfl (inc_1 _) (by decide) rfl (fun ls hl => ?_)
                            refine lv_goto (tgt := 126) hx hb dX4_changed_388 (by decide) ?_
                            have e88 : (eN (T 0) 201 (upd (rwI (chC how) i) i (nI 0))) = (eN (T 0) 201 (rwI (chC how) (i + 1))) := by first | (rw [rwI_c (v := chC how) (show nI 1 = chC how from (if_pos (by omega)).symm)]; done) | (rw [rwI_c (v := chC how) (show nI 0 = chC how from (if_neg (by omega)).symm)]; done)
                            exact hnext _ _ _ ⟨hS, lv_sub hl [0, 3, 4, 5, 6, 7, 8] rfl, ha, (by rw [← e88]; exact nb1)⟩
                          by_cases e202_5 : how = 5
                          · skip
                            refine lv_tableIn (off := 152) (tgt := 354) hx hb dX4_changed_202 (by rw [e202_5]; decide) (by rw [e202_5]; decide) (by rw [e202_5]; rfl) (by decide) ?_
                            refine lv_aload_n hx hb dX4_changed_354 rfl (lv_at hl 6 rfl) ?_
                            refine lv_iload hx hb dX4_changed_355 (lv_at hl 2 rfl) ?_
                            refine lv_iload hx hb dX4_changed_357 (lv_at hl 2 rfl) ?_
                            refine lv_iload hx hb dX4_changed_359 (lv_at hl 4 rfl) ?_
                            refine lv_icmp_lt (tgt := 375) hx hb dX4_changed_361 (by decide) (fun c361 => ?_) (fun c361 => ?_)
                            · skip
                              have c361 : i < 201 := (nc_lt (a := i) (b := 201) (by omega) (by omega)).mp c361
                              refine lv_iconst (v := nI 0) hx hb dX4_changed_375 (by decide) ?_
                              refine q_zast hx hb hK nb1 i (rfl) (by omega) (by decide) (rfl) hS (hA _ (by omega)) dX4_changed_376 (fun H1 locs1 hw9 hz oq hS => ?_)
                              replace ha := ha.ne oq (by omega)
                              have nb1 := hw9
                              refine lv_goto (tgt := 385) hx hb dX4_changed_377 (by decide) ?_
                              refine lv_iinc (v := nI (i + 1)) (lv' := [(6, .int (nI (i + 1))), (8, .int (nI 0)), (7, .int (nI 0)), (5, .int (nI 201)), (4, .int (nI 201)), (3, .int (nI 0)), (2, .ref b1), (0, .ref a), (1, .int (nI how))]) hx hb dX4_changed_385 hl (k := 2) rfl (inc_1 _) (by decide) rfl (fun ls hl => ?_)
                              refine lv_goto (tgt := 126) hx hb dX4_changed_388 (by decide) ?_
                              have e89 : (eN (T 0) 201 (upd (rwI (chC how) i) i (nI 0))) = (eN (T 0) 201 (rwI (chC how) (i + 1))) := by first | (rw [rwI_c (v := chC how) (show nI 1 = chC how from (if_pos (by omega)).symm)]; done) | (rw [rwI_c (v := chC how) (show nI 0 = chC how from (if_neg (by omega)).symm)]; done)
                              exact hnext _ _ _ ⟨hS, lv_sub hl [0, 3, 4, 5, 6, 7, 8] rfl, ha, (by rw [← e89]; exact nb1)⟩
                            · skip
                              have c361 : ¬ (i < 201) := fun q9 => c361 ((nc_lt (a := i) (b := 201) (by omega) (by omega)).mpr q9)
                              omega
                          by_cases e202_6 : how = 6
                          · skip
                            refine lv_tableIn (off := 152) (tgt := 354) hx hb dX4_changed_202 (by rw [e202_6]; decide) (by rw [e202_6]; decide) (by rw [e202_6]; rfl) (by decide) ?_
                            refine lv_aload_n hx hb dX4_changed_354 rfl (lv_at hl 6 rfl) ?_
                            refine lv_iload hx hb dX4_changed_355 (lv_at hl 2 rfl) ?_
                            refine lv_iload hx hb dX4_changed_357 (lv_at hl 2 rfl) ?_
                            refine lv_iload hx hb dX4_changed_359 (lv_at hl 4 rfl) ?_
                            refine lv_icmp_lt (tgt := 375) hx hb dX4_changed_361 (by decide) (fun c361 => ?_) (fun c361 => ?_)
                            · skip
                              have c361 : i < 201 := (nc_lt (a := i) (b := 201) (by omega) (by omega)).mp c361
                              refine lv_iconst (v := nI 0) hx hb dX4_changed_375 (by decide) ?_
                              refine q_zast hx hb hK nb1 i (rfl) (by omega) (by decide) (rfl) hS (hA _ (by omega)) dX4_changed_376 (fun H1 locs1 hw9 hz oq hS => ?_)
                              replace ha := ha.ne oq (by omega)
                              have nb1 := hw9
                              refine lv_goto (tgt := 385) hx hb dX4_changed_377 (by decide) ?_
                              refine lv_iinc (v := nI (i + 1)) (lv' := [(6, .int (nI (i + 1))), (8, .int (nI 0)), (7, .int (nI 0)), (5, .int (nI 201)), (4, .int (nI 201)), (3, .int (nI 0)), (2, .ref b1), (0, .ref a), (1, .int (nI how))]) hx hb dX4_changed_385 hl (k := 2) rfl (inc_1 _) (by decide) rfl (fun ls hl => ?_)
                              refine lv_goto (tgt := 126) hx hb dX4_changed_388 (by decide) ?_
                              have e90 : (eN (T 0) 201 (upd (rwI (chC how) i) i (nI 0))) = (eN (T 0) 201 (rwI (chC how) (i + 1))) := by first | (rw [rwI_c (v := chC how) (show nI 1 = chC how from (if_pos (by omega)).symm)]; done) | (rw [rwI_c (v := chC how) (show nI 0 = chC how from (if_neg (by omega)).symm)]; done)
                              exact hnext _ _ _ ⟨hS, lv_sub hl [0, 3, 4, 5, 6, 7, 8] rfl, ha, (by rw [← e90]; exact nb1)⟩
                            · skip
                              have c361 : ¬ (i < 201) := fun q9 => c361 ((nc_lt (a := i) (b := 201) (by omega) (by omega)).mpr q9)
                              omega
                          refine lv_tableOut (tgt := 380) hx hb dX4_changed_202 (Or.inr (by rw [nI_toInt (by omega)]; omega)) (by decide) ?_
                          refine lv_aload_n hx hb dX4_changed_380 rfl (lv_at hl 6 rfl) ?_
                          refine lv_iload hx hb dX4_changed_381 (lv_at hl 2 rfl) ?_
                          refine lv_iconst (v := nI 0) hx hb dX4_changed_383 (by decide) ?_
                          refine q_zast hx hb hK nb1 i (rfl) (by omega) (by decide) (rfl) hS (hA _ (by omega)) dX4_changed_384 (fun H1 locs1 hw9 hz oq hS => ?_)
                          replace ha := ha.ne oq (by omega)
                          have nb1 := hw9
                          refine lv_iinc (v := nI (i + 1)) (lv' := [(6, .int (nI (i + 1))), (8, .int (nI 0)), (7, .int (nI 0)), (5, .int (nI 201)), (4, .int (nI 201)), (3, .int (nI 0)), (2, .ref b1), (0, .ref a), (1, .int (nI how))]) hx hb dX4_changed_385 hl (k := 2) rfl (inc_1 _) (by decide) rfl (fun ls hl => ?_)
                          refine lv_goto (tgt := 126) hx hb dX4_changed_388 (by decide) ?_
                          have e91 : (eN (T 0) 201 (upd (rwI (chC how) i) i (nI 0))) = (eN (T 0) 201 (rwI (chC how) (i + 1))) := by first | (rw [rwI_c (v := chC how) (show nI 1 = chC how from (if_pos (by omega)).symm)]; done) | (rw [rwI_c (v := chC how) (show nI 0 = chC how from (if_neg (by omega)).symm)]; done)
                          exact hnext _ _ _ ⟨hS, lv_sub hl [0, 3, 4, 5, 6, 7, 8] rfl, ha, (by rw [← e91]; exact nb1)⟩
                        · skip
                          have c191 : ¬ (0 = 0) := fun q9 => c191 ((nc_eq (a := 0) (b := 0) (by omega) (by omega)).mpr q9)
                          omega
                    · skip
                      have c165 : ¬ (i = 0) := fun q9 => c165 ((nc_eq (a := i) (b := 0) (by omega) (by omega)).mpr q9)
                      refine lv_aload_n hx hb dX4_changed_168 rfl (lv_at hl 6 rfl) ?_
                      refine lv_iload hx hb dX4_changed_169 (lv_at hl 1 rfl) ?_
                      refine lv_iconst (v := nI 1) hx hb dX4_changed_171 (by decide) ?_
                      refine lv_isub hx hb dX4_changed_172 ?_
                      rw [pk_sub (a := i) (b := 1) (by omega)]
                      refine q_zald hx hb hK ha (i - 1) (rfl) (by omega) (by decide) dX4_changed_173 ?_
                      refine W.eq (g2 := F0 m 174 ls [.int (nI 0)]) rfl ?_
                      refine lv_if_eq (tgt := 198) hx hb dX4_changed_174 (by decide) (fun c174 => ?_) (fun c174 => ?_)
                      · skip
                        have c174 : 0 = 0 := (nc_eq (a := 0) (b := 0) (by omega) (by omega)).mp c174
                        refine lv_iconst (v := nI 0) hx hb dX4_changed_198 (by decide) ?_
                        refine lv_istore (lv' := [(8, .int (nI 0)), (7, .int (nI 0)), (6, .int (nI i)), (5, .int (nI 201)), (4, .int (nI 201)), (3, .int (nI 0)), (2, .ref b1), (0, .ref a), (1, .int (nI how))]) hx hb dX4_changed_199 hl (by decide) rfl (fun ls hl => ?_)
                        refine lv_iload_n hx hb dX4_changed_201 rfl (lv_at hl 8 rfl) ?_
                        by_cases e202_0 : how = 0
                        · skip
                          refine lv_tableIn (off := 42) (tgt := 244) hx hb dX4_changed_202 (by rw [e202_0]; decide) (by rw [e202_0]; decide) (by rw [e202_0]; rfl) (by decide) ?_
                          refine lv_aload_n hx hb dX4_changed_244 rfl (lv_at hl 6 rfl) ?_
                          refine lv_iload hx hb dX4_changed_245 (lv_at hl 2 rfl) ?_
                          refine lv_aload_n hx hb dX4_changed_247 rfl (lv_at hl 7 rfl) ?_
                          refine lv_iload hx hb dX4_changed_248 (lv_at hl 2 rfl) ?_
                          refine q_zald hx hb hK ha i (rfl) (by omega) (by decide) dX4_changed_250 ?_
                          refine W.eq (g2 := F0 m 251 ls [.int (nI 0), .int (nI i), .ref b1]) rfl ?_
                          refine lv_if_ne (tgt := 258) hx hb dX4_changed_251 (by decide) (fun c251 => ?_) (fun c251 => ?_)
                          · skip
                            have c251 : ¬ (0 = 0) := fun q9 => c251 ((nc_eq (a := 0) (b := 0) (by omega) (by omega)).mpr q9)
                            omega
                          · skip
                            have c251 : 0 = 0 := (nc_eq (a := 0) (b := 0) (by omega) (by omega)).mp c251
                            refine lv_iconst (v := nI 1) hx hb dX4_changed_254 (by decide) ?_
                            refine lv_goto (tgt := 259) hx hb dX4_changed_255 (by decide) ?_
                            refine q_zast hx hb hK nb1 i (rfl) (by omega) (by decide) (rfl) hS (hA _ (by omega)) dX4_changed_259 (fun H1 locs1 hw9 hz oq hS => ?_)
                            replace ha := ha.ne oq (by omega)
                            have nb1 := hw9
                            refine lv_goto (tgt := 385) hx hb dX4_changed_260 (by decide) ?_
                            refine lv_iinc (v := nI (i + 1)) (lv' := [(6, .int (nI (i + 1))), (8, .int (nI 0)), (7, .int (nI 0)), (5, .int (nI 201)), (4, .int (nI 201)), (3, .int (nI 0)), (2, .ref b1), (0, .ref a), (1, .int (nI how))]) hx hb dX4_changed_385 hl (k := 2) rfl (inc_1 _) (by decide) rfl (fun ls hl => ?_)
                            refine lv_goto (tgt := 126) hx hb dX4_changed_388 (by decide) ?_
                            have e92 : (eN (T 0) 201 (upd (rwI (chC how) i) i (nI 1))) = (eN (T 0) 201 (rwI (chC how) (i + 1))) := by first | (rw [rwI_c (v := chC how) (show nI 1 = chC how from (if_pos (by omega)).symm)]; done) | (rw [rwI_c (v := chC how) (show nI 0 = chC how from (if_neg (by omega)).symm)]; done)
                            exact hnext _ _ _ ⟨hS, lv_sub hl [0, 3, 4, 5, 6, 7, 8] rfl, ha, (by rw [← e92]; exact nb1)⟩
                        by_cases e202_1 : how = 1
                        · skip
                          refine lv_tableIn (off := 61) (tgt := 263) hx hb dX4_changed_202 (by rw [e202_1]; decide) (by rw [e202_1]; decide) (by rw [e202_1]; rfl) (by decide) ?_
                          refine lv_aload_n hx hb dX4_changed_263 rfl (lv_at hl 6 rfl) ?_
                          refine lv_iload hx hb dX4_changed_264 (lv_at hl 2 rfl) ?_
                          refine lv_aload_n hx hb dX4_changed_266 rfl (lv_at hl 7 rfl) ?_
                          refine lv_iload hx hb dX4_changed_267 (lv_at hl 2 rfl) ?_
                          refine q_zald hx hb hK ha i (rfl) (by omega) (by decide) dX4_changed_269 ?_
                          refine W.eq (g2 := F0 m 270 ls [.int (nI 0), .int (nI i), .ref b1]) rfl ?_
                          refine lv_if_eq (tgt := 290) hx hb dX4_changed_270 (by decide) (fun c270 => ?_) (fun c270 => ?_)
                          · skip
                            have c270 : 0 = 0 := (nc_eq (a := 0) (b := 0) (by omega) (by omega)).mp c270
                            refine lv_iconst (v := nI 0) hx hb dX4_changed_290 (by decide) ?_
                            refine q_zast hx hb hK nb1 i (rfl) (by omega) (by decide) (rfl) hS (hA _ (by omega)) dX4_changed_291 (fun H1 locs1 hw9 hz oq hS => ?_)
                            replace ha := ha.ne oq (by omega)
                            have nb1 := hw9
                            refine lv_goto (tgt := 385) hx hb dX4_changed_292 (by decide) ?_
                            refine lv_iinc (v := nI (i + 1)) (lv' := [(6, .int (nI (i + 1))), (8, .int (nI 0)), (7, .int (nI 0)), (5, .int (nI 201)), (4, .int (nI 201)), (3, .int (nI 0)), (2, .ref b1), (0, .ref a), (1, .int (nI how))]) hx hb dX4_changed_385 hl (k := 2) rfl (inc_1 _) (by decide) rfl (fun ls hl => ?_)
                            refine lv_goto (tgt := 126) hx hb dX4_changed_388 (by decide) ?_
                            have e93 : (eN (T 0) 201 (upd (rwI (chC how) i) i (nI 0))) = (eN (T 0) 201 (rwI (chC how) (i + 1))) := by first | (rw [rwI_c (v := chC how) (show nI 1 = chC how from (if_pos (by omega)).symm)]; done) | (rw [rwI_c (v := chC how) (show nI 0 = chC how from (if_neg (by omega)).symm)]; done)
                            exact hnext _ _ _ ⟨hS, lv_sub hl [0, 3, 4, 5, 6, 7, 8] rfl, ha, (by rw [← e93]; exact nb1)⟩
                          · skip
                            have c270 : ¬ (0 = 0) := fun q9 => c270 ((nc_eq (a := 0) (b := 0) (by omega) (by omega)).mpr q9)
                            omega
                        by_cases e202_2 : how = 2
                        · skip
                          refine lv_tableIn (off := 93) (tgt := 295) hx hb dX4_changed_202 (by rw [e202_2]; decide) (by rw [e202_2]; decide) (by rw [e202_2]; rfl) (by decide) ?_
                          refine lv_aload_n hx hb dX4_changed_295 rfl (lv_at hl 6 rfl) ?_
                          refine lv_iload hx hb dX4_changed_296 (lv_at hl 2 rfl) ?_
                          refine lv_aload_n hx hb dX4_changed_298 rfl (lv_at hl 7 rfl) ?_
                          refine lv_iload hx hb dX4_changed_299 (lv_at hl 2 rfl) ?_
                          refine q_zald hx hb hK ha i (rfl) (by omega) (by decide) dX4_changed_301 ?_
                          refine W.eq (g2 := F0 m 302 ls [.int (nI 0), .int (nI i), .ref b1]) rfl ?_
                          refine lv_if_ne (tgt := 317) hx hb dX4_changed_302 (by decide) (fun c302 => ?_) (fun c302 => ?_)
                          · skip
                            have c302 : ¬ (0 = 0) := fun q9 => c302 ((nc_eq (a := 0) (b := 0) (by omega) (by omega)).mpr q9)
                            omega
                          · skip
                            have c302 : 0 = 0 := (nc_eq (a := 0) (b := 0) (by omega) (by omega)).mp c302
                            refine lv_iload hx hb dX4_changed_305 (lv_at hl 2 rfl) ?_
                            refine lv_iconst (v := nI 2) hx hb dX4_changed_307 (by decide) ?_
                            refine lv_irem hx hb dX4_changed_308 (by decide) ?_
                            rw [pk_rem (a := i) (d := 2) (by omega) (by omega) (by omega)]
                            refine lv_if_ne (tgt := 321) hx hb dX4_changed_309 (by decide) (fun c309 => ?_) (fun c309 => ?_)
                            · skip
                              have c309 : ¬ (i % 2 = 0) := fun q9 => c309 ((nc_eq (a := i % 2) (b := 0) (by omega) (by omega)).mpr q9)
                              refine lv_iconst (v := nI 0) hx hb dX4_changed_321 (by decide) ?_
                              refine q_zast hx hb hK nb1 i (rfl) (by omega) (by decide) (rfl) hS (hA _ (by omega)) dX4_changed_322 (fun H1 locs1 hw9 hz oq hS => ?_)
                              replace ha := ha.ne oq (by omega)
                              have nb1 := hw9
                              refine lv_goto (tgt := 385) hx hb dX4_changed_323 (by decide) ?_
                              refine lv_iinc (v := nI (i + 1)) (lv' := [(6, .int (nI (i + 1))), (8, .int (nI 0)), (7, .int (nI 0)), (5, .int (nI 201)), (4, .int (nI 201)), (3, .int (nI 0)), (2, .ref b1), (0, .ref a), (1, .int (nI how))]) hx hb dX4_changed_385 hl (k := 2) rfl (inc_1 _) (by decide) rfl (fun ls hl => ?_)
                              refine lv_goto (tgt := 126) hx hb dX4_changed_388 (by decide) ?_
                              have e94 : (eN (T 0) 201 (upd (rwI (chC how) i) i (nI 0))) = (eN (T 0) 201 (rwI (chC how) (i + 1))) := by first | (rw [rwI_c (v := chC how) (show nI 1 = chC how from (if_pos (by omega)).symm)]; done) | (rw [rwI_c (v := chC how) (show nI 0 = chC how from (if_neg (by omega)).symm)]; done)
                              exact hnext _ _ _ ⟨hS, lv_sub hl [0, 3, 4, 5, 6, 7, 8] rfl, ha, (by rw [← e94]; exact nb1)⟩
                            · skip
                              have c309 : i % 2 = 0 := (nc_eq (a := i % 2) (b := 0) (by omega) (by omega)).mp c309
                              refine lv_iload hx hb dX4_changed_312 (lv_at hl 1 rfl) ?_
                              refine lv_if_eq (tgt := 321) hx hb dX4_changed_314 (by decide) (fun c314 => ?_) (fun c314 => ?_)
                              · skip
                                have c314 : 0 = 0 := (nc_eq (a := 0) (b := 0) (by omega) (by omega)).mp c314
                                refine lv_iconst (v := nI 0) hx hb dX4_changed_321 (by decide) ?_
                                refine q_zast hx hb hK nb1 i (rfl) (by omega) (by decide) (rfl) hS (hA _ (by omega)) dX4_changed_322 (fun H1 locs1 hw9 hz oq hS => ?_)
                                replace ha := ha.ne oq (by omega)
                                have nb1 := hw9
                                refine lv_goto (tgt := 385) hx hb dX4_changed_323 (by decide) ?_
                                refine lv_iinc (v := nI (i + 1)) (lv' := [(6, .int (nI (i + 1))), (8, .int (nI 0)), (7, .int (nI 0)), (5, .int (nI 201)), (4, .int (nI 201)), (3, .int (nI 0)), (2, .ref b1), (0, .ref a), (1, .int (nI how))]) hx hb dX4_changed_385 hl (k := 2) rfl (inc_1 _) (by decide) rfl (fun ls hl => ?_)
                                refine lv_goto (tgt := 126) hx hb dX4_changed_388 (by decide) ?_
                                have e95 : (eN (T 0) 201 (upd (rwI (chC how) i) i (nI 0))) = (eN (T 0) 201 (rwI (chC how) (i + 1))) := by first | (rw [rwI_c (v := chC how) (show nI 1 = chC how from (if_pos (by omega)).symm)]; done) | (rw [rwI_c (v := chC how) (show nI 0 = chC how from (if_neg (by omega)).symm)]; done)
                                exact hnext _ _ _ ⟨hS, lv_sub hl [0, 3, 4, 5, 6, 7, 8] rfl, ha, (by rw [← e95]; exact nb1)⟩
                              · skip
                                have c314 : ¬ (0 = 0) := fun q9 => c314 ((nc_eq (a := 0) (b := 0) (by omega) (by omega)).mpr q9)
                                omega
                        by_cases e202_3 : how = 3
                        · skip
                          refine lv_tableIn (off := 124) (tgt := 326) hx hb dX4_changed_202 (by rw [e202_3]; decide) (by rw [e202_3]; decide) (by rw [e202_3]; rfl) (by decide) ?_
                          refine lv_aload_n hx hb dX4_changed_326 rfl (lv_at hl 6 rfl) ?_
                          refine lv_iload hx hb dX4_changed_327 (lv_at hl 2 rfl) ?_
                          refine lv_aload_n hx hb dX4_changed_329 rfl (lv_at hl 7 rfl) ?_
                          refine lv_iload hx hb dX4_changed_330 (lv_at hl 2 rfl) ?_
                          refine vp_callSi (va_runS (As := [.ref a, .int (nI i)]) (rest := [.int (nI i), .ref b1]) ⟨hx, hb, hml, hown, hts⟩ (conX4_isAlone l D T a i (by omega)) (va_cwS 2 hts gX4_changed_X4_isAlone rfl rfl rfl (by decide +kernel) ⟨Nat.le_of_ble_eq_true rfl, Nat.le_of_ble_eq_true rfl⟩) (preS hK ha) rfl rfl hl.1 rfl (lv_room (Nat.le_of_ble_eq_true rfl)) dX4_changed_332 ⟨Nat.le_of_ble_eq_true rfl, Nat.le_of_ble_eq_true rfl⟩).run (fun r96 hr96 => ?_)
                          rw [hr96]
                          refine q_zast hx hb hK nb1 i (rfl) (by omega) (by decide) (rfl) hS (hA _ (by omega)) dX4_changed_335 (fun H1 locs1 hw9 hz oq hS => ?_)
                          replace ha := ha.ne oq (by omega)
                          have nb1 := hw9
                          refine lv_goto (tgt := 385) hx hb dX4_changed_336 (by decide) ?_
                          refine lv_iinc (v := nI (i + 1)) (lv' := [(6, .int (nI (i + 1))), (8, .int (nI 0)), (7, .int (nI 0)), (5, .int (nI 201)), (4, .int (nI 201)), (3, .int (nI 0)), (2, .ref b1), (0, .ref a), (1, .int (nI how))]) hx hb dX4_changed_385 hl (k := 2) rfl (inc_1 _) (by decide) rfl (fun ls hl => ?_)
                          refine lv_goto (tgt := 126) hx hb dX4_changed_388 (by decide) ?_
                          have e97 : (eN (T 0) 201 (upd (rwI (chC how) i) i (nI 0))) = (eN (T 0) 201 (rwI (chC how) (i + 1))) := by first | (rw [rwI_c (v := chC how) (show nI 1 = chC how from (if_pos (by omega)).symm)]; done) | (rw [rwI_c (v := chC how) (show nI 0 = chC how from (if_neg (by omega)).symm)]; done)
                          exact hnext _ _ _ ⟨hS, lv_sub hl [0, 3, 4, 5, 6, 7, 8] rfl, ha, (by rw [← e97]; exact nb1)⟩
                        by_cases e202_4 : how = 4
                        · skip
                          refine lv_tableIn (off := 137) (tgt := 339) hx hb dX4_changed_202 (by rw [e202_4]; decide) (by rw [e202_4]; decide) (by rw [e202_4]; rfl) (by decide) ?_
                          refine lv_aload_n hx hb dX4_changed_339 rfl (lv_at hl 6 rfl) ?_
                          refine lv_iload hx hb dX4_changed_340 (lv_at hl 2 rfl) ?_
                          refine lv_aload_n hx hb dX4_changed_342 rfl (lv_at hl 7 rfl) ?_
                          refine lv_sipush (v := nI 200) hx hb dX4_changed_343 (by decide) ?_
                          refine lv_iload hx hb dX4_changed_346 (lv_at hl 2 rfl) ?_
                          refine lv_isub hx hb dX4_changed_348 ?_
                          rw [pk_sub (a := 200) (b := i) (by omega)]
                          refine q_zald hx hb hK ha (200 - i) (rfl) (by omega) (by decide) dX4_changed_349 ?_
                          refine W.eq (g2 := F0 m 350 ls [.int (nI 0), .int (nI i), .ref b1]) rfl ?_
                          refine q_zast hx hb hK nb1 i (rfl) (by omega) (by decide) (rfl) hS (hA _ (by omega)) dX4_changed_350 (fun H1 locs1 hw9 hz oq hS => ?_)
                          replace ha := ha.ne oq (by omega)
                          have nb1 := hw9
                          refine lv_goto (tgt := 385) hx hb dX4_changed_351 (by decide) ?_
                          refine lv_iinc (v := nI (i + 1)) (lv' := [(6, .int (nI (i + 1))), (8, .int (nI 0)), (7, .int (nI 0)), (5, .int (nI 201)), (4, .int (nI 201)), (3, .int (nI 0)), (2, .ref b1), (0, .ref a), (1, .int (nI how))]) hx hb dX4_changed_385 hl (k := 2) rfl (inc_1 _) (by decide) rfl (fun ls hl => ?_)
                          refine lv_goto (tgt := 126) hx hb dX4_changed_388 (by decide) ?_
                          have e98 : (eN (T 0) 201 (upd (rwI (chC how) i) i (nI 0))) = (eN (T 0) 201 (rwI (chC how) (i + 1))) := by first | (rw [rwI_c (v := chC how) (show nI 1 = chC how from (if_pos (by omega)).symm)]; done) | (rw [rwI_c (v := chC how) (show nI 0 = chC how from (if_neg (by omega)).symm)]; done)
                          exact hnext _ _ _ ⟨hS, lv_sub hl [0, 3, 4, 5, 6, 7, 8] rfl, ha, (by rw [← e98]; exact nb1)⟩
                        by_cases e202_5 : how = 5
                        · skip
                          refine lv_tableIn (off := 152) (tgt := 354) hx hb dX4_changed_202 (by rw [e202_5]; decide) (by rw [e202_5]; decide) (by rw [e202_5]; rfl) (by decide) ?_
                          refine lv_aload_n hx hb dX4_changed_354 rfl (lv_at hl 6 rfl) ?_
                          refine lv_iload hx hb dX4_changed_355 (lv_at hl 2 rfl) ?_
                          refine lv_iload hx hb dX4_changed_357 (lv_at hl 2 rfl) ?_
                          refine lv_iload hx hb dX4_changed_359 (lv_at hl 4 rfl) ?_
                          refine lv_icmp_lt (tgt := 375) hx hb dX4_changed_361 (by decide) (fun c361 => ?_) (fun c361 => ?_)
                          · skip
                            have c361 : i < 201 := (nc_lt (a := i) (b := 201) (by omega) (by omega)).mp c361
                            refine lv_iconst (v := nI 0) hx hb dX4_changed_375 (by decide) ?_
                            refine q_zast hx hb hK nb1 i (rfl) (by omega) (by decide) (rfl) hS (hA _ (by omega)) dX4_changed_376 (fun H1 locs1 hw9 hz oq hS => ?_)
                            replace ha := ha.ne oq (by omega)
                            have nb1 := hw9
                            refine lv_goto (tgt := 385) hx hb dX4_changed_377 (by decide) ?_
                            refine lv_iinc (v := nI (i + 1)) (lv' := [(6, .int (nI (i + 1))), (8, .int (nI 0)), (7, .int (nI 0)), (5, .int (nI 201)), (4, .int (nI 201)), (3, .int (nI 0)), (2, .ref b1), (0, .ref a), (1, .int (nI how))]) hx hb dX4_changed_385 hl (k := 2) rfl (inc_1 _) (by decide) rfl (fun ls hl => ?_)
                            refine lv_goto (tgt := 126) hx hb dX4_changed_388 (by decide) ?_
                            have e99 : (eN (T 0) 201 (upd (rwI (chC how) i) i (nI 0))) = (eN (T 0) 201 (rwI (chC how) (i + 1))) := by first | (rw [rwI_c (v := chC how) (show nI 1 = chC how from (if_pos (by omega)).symm)]; done) | (rw [rwI_c (v := chC how) (show nI 0 = chC how from (if_neg (by omega)).symm)]; done)
                            exact hnext _ _ _ ⟨hS, lv_sub hl [0, 3, 4, 5, 6, 7, 8] rfl, ha, (by rw [← e99]; exact nb1)⟩
                          · skip
                            have c361 : ¬ (i < 201) := fun q9 => c361 ((nc_lt (a := i) (b := 201) (by omega) (by omega)).mpr q9)
                            omega
                        by_cases e202_6 : how = 6
                        · skip
                          refine lv_tableIn (off := 152) (tgt := 354) hx hb dX4_changed_202 (by rw [e202_6]; decide) (by rw [e202_6]; decide) (by rw [e202_6]; rfl) (by decide) ?_
                          refine lv_aload_n hx hb dX4_changed_354 rfl (lv_at hl 6 rfl) ?_
                          refine lv_iload hx hb dX4_changed_355 (lv_at hl 2 rfl) ?_
                          refine lv_iload hx hb dX4_changed_357 (lv_at hl 2 rfl) ?_
                          refine lv_iload hx hb dX4_changed_359 (lv_at hl 4 rfl) ?_
                          refine lv_icmp_lt (tgt := 375) hx hb dX4_changed_361 (by decide) (fun c361 => ?_) (fun c361 => ?_)
                          · skip
                            have c361 : i < 201 := (nc_lt (a := i) (b := 201) (by omega) (by omega)).mp c361
                            refine lv_iconst (v := nI 0) hx hb dX4_changed_375 (by decide) ?_
                            refine q_zast hx hb hK nb1 i (rfl) (by omega) (by decide) (rfl) hS (hA _ (by omega)) dX4_changed_376 (fun H1 locs1 hw9 hz oq hS => ?_)
                            replace ha := ha.ne oq (by omega)
                            have nb1 := hw9
                            refine lv_goto (tgt := 385) hx hb dX4_changed_377 (by decide) ?_
                            refine lv_iinc (v := nI (i + 1)) (lv' := [(6, .int (nI (i + 1))), (8, .int (nI 0)), (7, .int (nI 0)), (5, .int (nI 201)), (4, .int (nI 201)), (3, .int (nI 0)), (2, .ref b1), (0, .ref a), (1, .int (nI how))]) hx hb dX4_changed_385 hl (k := 2) rfl (inc_1 _) (by decide) rfl (fun ls hl => ?_)
                            refine lv_goto (tgt := 126) hx hb dX4_changed_388 (by decide) ?_
                            have e100 : (eN (T 0) 201 (upd (rwI (chC how) i) i (nI 0))) = (eN (T 0) 201 (rwI (chC how) (i + 1))) := by first | (rw [rwI_c (v := chC how) (show nI 1 = chC how from (if_pos (by omega)).symm)]; done) | (rw [rwI_c (v := chC how) (show nI 0 = chC how from (if_neg (by omega)).symm)]; done)
                            exact hnext _ _ _ ⟨hS, lv_sub hl [0, 3, 4, 5, 6, 7, 8] rfl, ha, (by rw [← e100]; exact nb1)⟩
                          · skip
                            have c361 : ¬ (i < 201) := fun q9 => c361 ((nc_lt (a := i) (b := 201) (by omega) (by omega)).mpr q9)
                            omega
                        refine lv_tableOut (tgt := 380) hx hb dX4_changed_202 (Or.inr (by rw [nI_toInt (by omega)]; omega)) (by decide) ?_
                        refine lv_aload_n hx hb dX4_changed_380 rfl (lv_at hl 6 rfl) ?_
                        refine lv_iload hx hb dX4_changed_381 (lv_at hl 2 rfl) ?_
                        refine lv_iconst (v := nI 0) hx hb dX4_changed_383 (by decide) ?_
                        refine q_zast hx hb hK nb1 i (rfl) (by omega) (by decide) (rfl) hS (hA _ (by omega)) dX4_changed_384 (fun H1 locs1 hw9 hz oq hS => ?_)
                        replace ha := ha.ne oq (by omega)
                        have nb1 := hw9
                        refine lv_iinc (v := nI (i + 1)) (lv' := [(6, .int (nI (i + 1))), (8, .int (nI 0)), (7, .int (nI 0)), (5, .int (nI 201)), (4, .int (nI 201)), (3, .int (nI 0)), (2, .ref b1), (0, .ref a), (1, .int (nI how))]) hx hb dX4_changed_385 hl (k := 2) rfl (inc_1 _) (by decide) rfl (fun ls hl => ?_)
                        refine lv_goto (tgt := 126) hx hb dX4_changed_388 (by decide) ?_
                        have e101 : (eN (T 0) 201 (upd (rwI (chC how) i) i (nI 0))) = (eN (T 0) 201 (rwI (chC how) (i + 1))) := by first | (rw [rwI_c (v := chC how) (show nI 1 = chC how from (if_pos (by omega)).symm)]; done) | (rw [rwI_c (v := chC how) (show nI 0 = chC how from (if_neg (by omega)).symm)]; done)
                        exact hnext _ _ _ ⟨hS, lv_sub hl [0, 3, 4, 5, 6, 7, 8] rfl, ha, (by rw [← e101]; exact nb1)⟩
                      · skip
                        have c174 : ¬ (0 = 0) := fun q9 => c174 ((nc_eq (a := 0) (b := 0) (by omega) (by omega)).mpr q9)
                        omega
                  · skip
                    have c153 : ¬ (0 = 0) := fun q9 => c153 ((nc_eq (a := 0) (b := 0) (by omega) (by omega)).mpr q9)
                    omega
            · skip
              intro H locs ls hin9
              obtain ⟨hS, hl, ha, nb1⟩ := hin9
              refine lv_iload hx hb dX4_changed_126 (lv_at hl 0 rfl) ?_
              refine lv_sipush (v := nI 201) hx hb dX4_changed_128 (by decide) ?_
              refine lv_icmp_ge (tgt := 391) hx hb dX4_changed_131 (by decide) (fun c131 => ?_) (fun c131 => ?_)
              · skip
                have c131 : 201 ≤ 201 := (nc_le (a := 201) (b := 201) (by omega) (by omega)).mp c131
                refine lv_aload_n hx hb dX4_changed_391 rfl (lv_at hl 4 rfl) ?_
                exact W.aret (v := .ref b1) hx hb hr (Or.inr ⟨_, rfl⟩) (Or.inr ⟨_, rfl⟩) (fun t ht _ => ⟨⟨(), b1, rfl, trivial, by dsimp only; rw [ht]; exact ⟨by omega, nb1.outN (fun k hk => if_pos hk)⟩⟩, hS.F ht⟩) hS.2.2 dX4_changed_392
              · skip
                have c131 : ¬ (201 ≤ 201) := fun q9 => c131 ((nc_le (a := 201) (b := 201) (by omega) (by omega)).mpr q9)
                omega
          · skip
            have c98 : how = 6 := (nc_eq (a := how) (b := 6) (by omega) (by omega)).mp c98
            omega
        · skip
          have c77 : ¬ (201 ≤ 201) := fun q9 => c77 ((nc_le (a := 201) (b := 201) (by omega) (by omega)).mpr q9)
          omega
    · skip
      have c29 : ¬ (201 ≤ 201) := fun q9 => c29 ((nc_le (a := 201) (b := 201) (by omega) (by omega)).mpr q9)
      omega

set_option maxHeartbeats 4000000 in
set_option maxRecDepth 100000 in
theorem conX4_change (l : Launch) (D : va_G) (T : Nat → ClassId) (sz m0 : Nat) (th x1 x2 : Int32) : Met l yX4_change wsX4_change ({ frames := 3, cells := 1, slots := 201, locals := 73 }) (cP D T [.ref m0, .int x1, .int x2] (fun H => H.size = sz ∧ MF D T m0 th H)) (va_Qi (fun (r : Int32) (_ : Unit) => tw_change x1 x2 = nI 0 → r = chV x2) (fun _ t => MT D m0 (tw_change x1 x2) t.heap) (MA m0 sz)) 1 201 (MA m0 sz) := by
  refine Met.ofW (cc := cX4_change) (maxL := 3) (ret := (some .int)) (by decide) rfl ?_
  intro p e s m args below meth c s₁ B hml hv9
  obtain ⟨rfl, hK, hsz, hw⟩ := hv9
  have hx := B.exec
  have hb := B.bytes
  have hr := B.returns
  have hts := atoms_spec (ws := wsX4_change) B.pre
  have hown : s.vm.findClass RX4 = some m.cls := findClass_of_methodNamed B.named
  have hlocks := B.notSynchronized
  have hin4 : ∀ w ∈ wsX40, w ∈ wsX4_change := by decide +kernel
  generalize hAe : (MA m0 sz) = A
  have hA : ∀ q : Nat, ((m0 ≤ q ∧ q < m0 + 16) ∨ s.heap.size ≤ q) → A q := fun q h9 => by subst hAe; show (m0 ≤ q ∧ q < m0 + 16) ∨ sz ≤ q; omega
  have hS : va_S A s.heap s.heap [] := va_S.rf
  have hl := lv_entry ([.ref m0, .int x1, .int x2]) (n := 3) (Nat.le_of_ble_eq_true rfl)
  rw [lg_entry_eq]
  generalize (lg_sl ([.ref m0, .int x1, .int x2]) ++ List.replicate (3 - (lg_sl ([.ref m0, .int x1, .int x2])).length) Slot.unset).toArray = ls at hl ⊢
  have hl : lv_has ls 3 [(0, .ref m0), (1, .int x1), (2, .int x2)] := hl
  refine lv_aload_n hx hb dX4_change_0 rfl (lv_at hl 0 rfl) ?_
  refine lv_iconst (v := nI 0) hx hb dX4_change_1 (by decide) ?_
  refine q_put (v := .int (nI 0)) hx hb hts hin4 tyX4 tyX4_ok nmX4 hown hK hw.o rfl 0 (by decide) (hts (.fieldLink RX4 19 "PuddingstoneLineModel" "thrown" "I") (by decide +kernel)) (fun _ h9 => h9) rfl rfl rfl (Nat.le_of_ble_eq_true rfl) hS (hA _ (by omega)) dX4_change_2 (fun H1 locs1 hw9 oq hS => ?_)
  replace hw := hw.setO hw9 oq
  refine lv_iload_n hx hb dX4_change_5 rfl (lv_at hl 1 rfl) ?_
  refine vp_callSi (va_runS (As := [.int x1]) (rest := []) ⟨hx, hb, hml, hown, hts⟩ (conX4_isSet l D T x1) (va_cwS 1 hts gX4_change_X4_isSet rfl rfl rfl (by decide +kernel) ⟨Nat.le_of_ble_eq_true rfl, Nat.le_of_ble_eq_true rfl⟩) (preS hK trivial) rfl rfl hl.1 rfl (lv_room (Nat.le_of_ble_eq_true rfl)) dX4_change_6 ⟨Nat.le_of_ble_eq_true rfl, Nat.le_of_ble_eq_true rfl⟩).run (fun r1 hr1 => ?_)
  rw [hr1]
  refine lv_if_ne (tgt := 18) hx hb dX4_change_9 (by decide) (fun c9 => ?_) (fun c9 => ?_)
  · skip
    obtain ⟨k1, hk1, rfl⟩ := inM_ok (n := 7) (by decide) c9
    refine lv_iload_n hx hb dX4_change_18 rfl (lv_at hl 2 rfl) ?_
    refine lv_iconst (v := nI 0) hx hb dX4_change_19 (by decide) ?_
    refine lv_bipush (v := nI 7) hx hb dX4_change_20 (by decide) ?_
    refine vp_callSi (va_runS (As := [.int x2, .int (nI 0), .int (nI 7)]) (rest := []) ⟨hx, hb, hml, hown, hts⟩ (conX4_isIn l D T x2 (nI 0) (nI 7)) (va_cwS 3 hts gX4_change_X4_isIn rfl rfl rfl (by decide +kernel) ⟨Nat.le_of_ble_eq_true rfl, Nat.le_of_ble_eq_true rfl⟩) (preS hK trivial) rfl rfl hl.1 rfl (lv_room (Nat.le_of_ble_eq_true rfl)) dX4_change_22 ⟨Nat.le_of_ble_eq_true rfl, Nat.le_of_ble_eq_true rfl⟩).run (fun r2 hr2 => ?_)
    rw [hr2]
    refine lv_if_ne (tgt := 34) hx hb dX4_change_25 (by decide) (fun c25 => ?_) (fun c25 => ?_)
    · skip
      obtain ⟨k2, hk2, rfl⟩ := inM_ok (n := 7) (by decide) c25
      refine lv_aload_n hx hb dX4_change_34 rfl (lv_at hl 0 rfl) ?_
      refine q_get (v := .ref (m0 + 1)) hx hb hts hin4 hown hK hw.o rfl 1 (by decide) (hts (.fieldLink RX4 11 "PuddingstoneLineModel" "sets" "[[Z") (by decide +kernel)) (fun _ h9 => h9) rfl dX4_change_35 ?_
      refine lv_iload_n hx hb dX4_change_38 rfl (lv_at hl 1 rfl) ?_
      refine lv_aload_n hx hb dX4_change_39 rfl (lv_at hl 0 rfl) ?_
      refine q_get (v := .ref (m0 + 1)) hx hb hts hin4 hown hK hw.o rfl 1 (by decide) (hts (.fieldLink RX4 11 "PuddingstoneLineModel" "sets" "[[Z") (by decide +kernel)) (fun _ h9 => h9) rfl dX4_change_40 ?_
      refine lv_iload_n hx hb dX4_change_43 rfl (lv_at hl 1 rfl) ?_
      refine q_aald hx hb hK 4 rfl rfl hw.s k1 (rfl) (by omega) (by decide) (b := m0 + 2 + k1) rfl dX4_change_44 ?_
      refine lv_iload_n hx hb dX4_change_45 rfl (lv_at hl 2 rfl) ?_
      obtain ⟨b1, hb1⟩ : ∃ z : Nat, z = H1.size := ⟨_, rfl⟩
      have lw_b1 : m0 + 16 ≤ b1 := by have h8 := hw.lt; omega
      have ln_b1 : s.heap.size ≤ b1 := by have h8 := hS.1; omega
      refine va_callr (va_runS (As := [.ref (m0 + 2 + k1), .int (nI k2)]) (rest := [.int (nI k1), .ref (m0 + 1)]) ⟨hx, hb, hml, hown, hts⟩ (conX4_changed l D T b1 (m0 + 2 + k1) k2 (by omega)) (va_cwS 2 hts gX4_change_X4_changed rfl rfl rfl (by decide +kernel) ⟨Nat.le_of_ble_eq_true rfl, Nat.le_of_ble_eq_true rfl⟩) (preS hK ⟨hb1.symm, (hw.f k1 (by omega))⟩) rfl rfl hl.1 rfl (lv_room (Nat.le_of_ble_eq_true rfl)) dX4_change_46 ⟨Nat.le_of_ble_eq_true rfl, Nat.le_of_ble_eq_true rfl⟩) hS (fun q _ h9 => (hA q (by have h8 : b1 ≤ q := h9; omega))) (fun q h9 => (hA q (by have h8 : b1 ≤ q := h9; omega))) (fun u ra t H1 locs1 ht hvm hw9 hB hz1 hk1 hS => ?_)
      try dsimp only at hB
      rw [ht] at hB
      obtain ⟨a3, rfl⟩ : ∃ z, z = ra := ⟨_, rfl⟩
      obtain ⟨hz_a3, na3⟩ := hB
      replace hw := hw.kept hk1 (fun q h7 h8 (h9 : b1 ≤ q) => by omega)
      refine q_aasta hx hb hK 4 0 (ty := .boolean) rfl rfl (hK.2.1.2.2.1) hw.s na3 k1 (rfl) (by omega) (by decide) (hK.1.2 0 _ rfl).2 hS (hA _ (by omega)) dX4_change_49 (fun H1 locs1 hw9 hz oq hS => ?_)
      have fo := hw.o.ne oq (by omega)
      have fs := hw9
      replace na3 := na3.ne oq (by omega)
      refine lv_aload_n hx hb dX4_change_50 rfl (lv_at hl 0 rfl) ?_
      refine q_get (v := .ref (m0 + 1)) hx hb hts hin4 hown hK fo rfl 1 (by decide) (hts (.fieldLink RX4 11 "PuddingstoneLineModel" "sets" "[[Z") (by decide +kernel)) (fun _ h9 => h9) rfl dX4_change_51 ?_
      refine lv_iload_n hx hb dX4_change_54 rfl (lv_at hl 1 rfl) ?_
      refine q_aald hx hb hK 4 rfl rfl fs k1 (rfl) (by omega) (by decide) (b := a3) (by simp) dX4_change_55 ?_
      refine vp_callSi (va_runS (As := [.ref a3]) (rest := []) ⟨hx, hb, hml, hown, hts⟩ (conX4_count l D T a3 (chC k2)) (va_cwS 1 hts gX4_change_X4_count rfl rfl rfl (by decide +kernel) ⟨Nat.le_of_ble_eq_true rfl, Nat.le_of_ble_eq_true rfl⟩) (preS hK na3) rfl rfl hl.1 rfl (lv_room (Nat.le_of_ble_eq_true rfl)) dX4_change_56 ⟨Nat.le_of_ble_eq_true rfl, Nat.le_of_ble_eq_true rfl⟩).run (fun r4 hr4 => ?_)
      rw [hr4]
      have ht9 : tw_change (nI k1) (nI k2) = nI 0 := by unfold tw_change; rw [if_neg c9, if_neg c25]
      exact W.iret (v := cntc (chC k2) 201) hx hb hr (fun t ht _ => ⟨⟨cntc (chC k2) 201, (), rfl, by intro _; exact chC_v (by omega), by dsimp only; rw [ht]; exact (by rw [ht9]; exact ⟨_, _, fo⟩)⟩, hS.F ht⟩) hS.2.2 dX4_change_59
    · skip
      refine lv_aload_n hx hb dX4_change_28 rfl (lv_at hl 0 rfl) ?_
      refine lv_iconst (v := nI 2) hx hb dX4_change_29 (by decide) ?_
      refine va_calli (va_runV (As := [.int (nI 2)]) (rest := []) ⟨hx, hb, hml, hown, hts⟩ (conX4_no l D T m0 (nI 0) (nI 2) (.ref (m0 + 1)) (.ref (m0 + 10))) (cwV 1 hts gX4_change_X4_no rfl rfl rfl (by decide +kernel) ⟨Nat.le_of_ble_eq_true rfl, Nat.le_of_ble_eq_true rfl⟩) (preV hK hw.o rfl hw.o) rfl rfl hl.1 rfl (lv_room (Nat.le_of_ble_eq_true rfl)) dX4_change_30 ⟨Nat.le_of_ble_eq_true rfl, Nat.le_of_ble_eq_true rfl⟩) hS (fun q _ h9 => (hA q (by have h8 : q = m0 := h9; omega))) (fun q h9 => (hA q (by have h8 : q = m0 := h9; omega))) (fun r u t H1 locs1 ht hvm hw9 hB hz1 hk1 hS => ?_)
      try dsimp only at hB
      rw [ht] at hB
      rw [hw9]
      replace hw := hw.setK hB hk1
      have ht9 : tw_change (nI k1) x2 = nI 2 := by unfold tw_change; rw [if_neg c9, if_pos c25]
      refine W.widen (k := 1) (n := 201) (by first | omega | decide) (by first | omega | decide) ?_
      exact W.iret (v := nI 0) hx hb hr (fun t ht _ => ⟨⟨nI 0, (), rfl, by exact fun h9 => absurd (ht9.symm.trans h9) (by decide), by dsimp only; rw [ht]; exact (by rw [ht9]; exact ⟨_, _, hw.o⟩)⟩, hS.F ht⟩) hS.2.2 dX4_change_33
  · skip
    refine lv_aload_n hx hb dX4_change_12 rfl (lv_at hl 0 rfl) ?_
    refine lv_iconst (v := nI 1) hx hb dX4_change_13 (by decide) ?_
    refine va_calli (va_runV (As := [.int (nI 1)]) (rest := []) ⟨hx, hb, hml, hown, hts⟩ (conX4_no l D T m0 (nI 0) (nI 1) (.ref (m0 + 1)) (.ref (m0 + 10))) (cwV 1 hts gX4_change_X4_no rfl rfl rfl (by decide +kernel) ⟨Nat.le_of_ble_eq_true rfl, Nat.le_of_ble_eq_true rfl⟩) (preV hK hw.o rfl hw.o) rfl rfl hl.1 rfl (lv_room (Nat.le_of_ble_eq_true rfl)) dX4_change_14 ⟨Nat.le_of_ble_eq_true rfl, Nat.le_of_ble_eq_true rfl⟩) hS (fun q _ h9 => (hA q (by have h8 : q = m0 := h9; omega))) (fun q h9 => (hA q (by have h8 : q = m0 := h9; omega))) (fun r u t H1 locs1 ht hvm hw9 hB hz1 hk1 hS => ?_)
    try dsimp only at hB
    rw [ht] at hB
    rw [hw9]
    replace hw := hw.setK hB hk1
    have ht9 : tw_change x1 x2 = nI 1 := by unfold tw_change; rw [if_pos c9]
    refine W.widen (k := 1) (n := 201) (by first | omega | decide) (by first | omega | decide) ?_
    exact W.iret (v := nI 0) hx hb hr (fun t ht _ => ⟨⟨nI 0, (), rfl, by exact fun h9 => absurd (ht9.symm.trans h9) (by decide), by dsimp only; rw [ht]; exact (by rw [ht9]; exact ⟨_, _, hw.o⟩)⟩, hS.F ht⟩) hS.2.2 dX4_change_17

set_option maxHeartbeats 4000000 in
set_option maxRecDepth 100000 in
theorem conX4_move (l : Launch) (D : va_G) (T : Nat → ClassId) (sz m0 : Nat) (th x1 x2 : Int32) : Met l yX4_move wsX4_move ({ frames := 2, cells := 1, slots := 201, locals := 44 }) (cP D T [.ref m0, .int x1, .int x2] (fun H => H.size = sz ∧ MF D T m0 th H)) (va_Qi (fun (r : Int32) (_ : Unit) => tw_move x1 x2 = nI 0 → r = nI 0) (fun _ t => MT D m0 (tw_move x1 x2) t.heap) (MA m0 sz)) 1 201 (MA m0 sz) := by
  refine Met.ofW (cc := cX4_move) (maxL := 3) (ret := (some .int)) (by decide) rfl ?_
  intro p e s m args below meth c s₁ B hml hv9
  obtain ⟨rfl, hK, hsz, hw⟩ := hv9
  have hx := B.exec
  have hb := B.bytes
  have hr := B.returns
  have hts := atoms_spec (ws := wsX4_move) B.pre
  have hown : s.vm.findClass RX4 = some m.cls := findClass_of_methodNamed B.named
  have hlocks := B.notSynchronized
  have hin4 : ∀ w ∈ wsX40, w ∈ wsX4_move := by decide +kernel
  generalize hAe : (MA m0 sz) = A
  have hA : ∀ q : Nat, ((m0 ≤ q ∧ q < m0 + 16) ∨ s.heap.size ≤ q) → A q := fun q h9 => by subst hAe; show (m0 ≤ q ∧ q < m0 + 16) ∨ sz ≤ q; omega
  have hS : va_S A s.heap s.heap [] := va_S.rf
  have hl := lv_entry ([.ref m0, .int x1, .int x2]) (n := 3) (Nat.le_of_ble_eq_true rfl)
  rw [lg_entry_eq]
  generalize (lg_sl ([.ref m0, .int x1, .int x2]) ++ List.replicate (3 - (lg_sl ([.ref m0, .int x1, .int x2])).length) Slot.unset).toArray = ls at hl ⊢
  have hl : lv_has ls 3 [(0, .ref m0), (1, .int x1), (2, .int x2)] := hl
  refine lv_aload_n hx hb dX4_move_0 rfl (lv_at hl 0 rfl) ?_
  refine lv_iconst (v := nI 0) hx hb dX4_move_1 (by decide) ?_
  refine q_put (v := .int (nI 0)) hx hb hts hin4 tyX4 tyX4_ok nmX4 hown hK hw.o rfl 0 (by decide) (hts (.fieldLink RX4 19 "PuddingstoneLineModel" "thrown" "I") (by decide +kernel)) (fun _ h9 => h9) rfl rfl rfl (Nat.le_of_ble_eq_true rfl) hS (hA _ (by omega)) dX4_move_2 (fun H1 locs1 hw9 oq hS => ?_)
  replace hw := hw.setO hw9 oq
  refine lv_iload_n hx hb dX4_move_5 rfl (lv_at hl 1 rfl) ?_
  refine vp_callSi (va_runS (As := [.int x1]) (rest := []) ⟨hx, hb, hml, hown, hts⟩ (conX4_isSet l D T x1) (va_cwS 1 hts gX4_move_X4_isSet rfl rfl rfl (by decide +kernel) ⟨Nat.le_of_ble_eq_true rfl, Nat.le_of_ble_eq_true rfl⟩) (preS hK trivial) rfl rfl hl.1 rfl (lv_room (Nat.le_of_ble_eq_true rfl)) dX4_move_6 ⟨Nat.le_of_ble_eq_true rfl, Nat.le_of_ble_eq_true rfl⟩).run (fun r1 hr1 => ?_)
  rw [hr1]
  refine lv_if_ne (tgt := 18) hx hb dX4_move_9 (by decide) (fun c9 => ?_) (fun c9 => ?_)
  · skip
    obtain ⟨k1, hk1, rfl⟩ := inM_ok (n := 7) (by decide) c9
    refine lv_iload_n hx hb dX4_move_18 rfl (lv_at hl 2 rfl) ?_
    refine lv_bipush (v := (-100)) hx hb dX4_move_19 (by decide) ?_
    refine lv_bipush (v := nI 100) hx hb dX4_move_21 (by decide) ?_
    refine vp_callSi (va_runS (As := [.int x2, .int (-100), .int (nI 100)]) (rest := []) ⟨hx, hb, hml, hown, hts⟩ (conX4_isIn l D T x2 (-100) (nI 100)) (va_cwS 3 hts gX4_move_X4_isIn rfl rfl rfl (by decide +kernel) ⟨Nat.le_of_ble_eq_true rfl, Nat.le_of_ble_eq_true rfl⟩) (preS hK trivial) rfl rfl hl.1 rfl (lv_room (Nat.le_of_ble_eq_true rfl)) dX4_move_23 ⟨Nat.le_of_ble_eq_true rfl, Nat.le_of_ble_eq_true rfl⟩).run (fun r2 hr2 => ?_)
    rw [hr2]
    refine lv_if_ne (tgt := 35) hx hb dX4_move_26 (by decide) (fun c26 => ?_) (fun c26 => ?_)
    · skip
      refine lv_aload_n hx hb dX4_move_35 rfl (lv_at hl 0 rfl) ?_
      refine q_get (v := .ref (m0 + 1)) hx hb hts hin4 hown hK hw.o rfl 1 (by decide) (hts (.fieldLink RX4 11 "PuddingstoneLineModel" "sets" "[[Z") (by decide +kernel)) (fun _ h9 => h9) rfl dX4_move_36 ?_
      refine lv_iload_n hx hb dX4_move_39 rfl (lv_at hl 1 rfl) ?_
      refine lv_aload_n hx hb dX4_move_40 rfl (lv_at hl 0 rfl) ?_
      refine q_get (v := .ref (m0 + 1)) hx hb hts hin4 hown hK hw.o rfl 1 (by decide) (hts (.fieldLink RX4 11 "PuddingstoneLineModel" "sets" "[[Z") (by decide +kernel)) (fun _ h9 => h9) rfl dX4_move_41 ?_
      refine lv_iload_n hx hb dX4_move_44 rfl (lv_at hl 1 rfl) ?_
      refine q_aald hx hb hK 4 rfl rfl hw.s k1 (rfl) (by omega) (by decide) (b := m0 + 2 + k1) rfl dX4_move_45 ?_
      refine lv_iload_n hx hb dX4_move_46 rfl (lv_at hl 2 rfl) ?_
      obtain ⟨b1, hb1⟩ : ∃ z : Nat, z = H1.size := ⟨_, rfl⟩
      have lw_b1 : m0 + 16 ≤ b1 := by have h8 := hw.lt; omega
      have ln_b1 : s.heap.size ≤ b1 := by have h8 := hS.1; omega
      refine va_callr (va_runS (As := [.ref (m0 + 2 + k1), .int x2]) (rest := [.int (nI k1), .ref (m0 + 1)]) ⟨hx, hb, hml, hown, hts⟩ (conX4_moved l D T b1 (m0 + 2 + k1) x2) (va_cwS 2 hts gX4_move_X4_moved rfl rfl rfl (by decide +kernel) ⟨Nat.le_of_ble_eq_true rfl, Nat.le_of_ble_eq_true rfl⟩) (preS hK ⟨hb1.symm, (hw.f k1 (by omega))⟩) rfl rfl hl.1 rfl (lv_room (Nat.le_of_ble_eq_true rfl)) dX4_move_47 ⟨Nat.le_of_ble_eq_true rfl, Nat.le_of_ble_eq_true rfl⟩) hS (fun q _ h9 => (hA q (by have h8 : b1 ≤ q := h9; omega))) (fun q h9 => (hA q (by have h8 : b1 ≤ q := h9; omega))) (fun u ra t H1 locs1 ht hvm hw9 hB hz1 hk1 hS => ?_)
      try dsimp only at hB
      rw [ht] at hB
      obtain ⟨a3, rfl⟩ : ∃ z, z = ra := ⟨_, rfl⟩
      obtain ⟨hz_a3, na3⟩ := hB
      replace hw := hw.kept hk1 (fun q h7 h8 (h9 : b1 ≤ q) => by omega)
      refine q_aasta hx hb hK 4 0 (ty := .boolean) rfl rfl (hK.2.1.2.2.1) hw.s na3 k1 (rfl) (by omega) (by decide) (hK.1.2 0 _ rfl).2 hS (hA _ (by omega)) dX4_move_50 (fun H1 locs1 hw9 hz oq hS => ?_)
      have fo := hw.o.ne oq (by omega)
      have fs := hw9
      replace na3 := na3.ne oq (by omega)
      refine lv_aload_n hx hb dX4_move_51 rfl (lv_at hl 0 rfl) ?_
      refine q_get (v := .ref (m0 + 1)) hx hb hts hin4 hown hK fo rfl 1 (by decide) (hts (.fieldLink RX4 11 "PuddingstoneLineModel" "sets" "[[Z") (by decide +kernel)) (fun _ h9 => h9) rfl dX4_move_52 ?_
      refine lv_iload_n hx hb dX4_move_55 rfl (lv_at hl 1 rfl) ?_
      refine q_aald hx hb hK 4 rfl rfl fs k1 (rfl) (by omega) (by decide) (b := a3) (by simp) dX4_move_56 ?_
      refine vp_callSi (va_runS (As := [.ref a3]) (rest := []) ⟨hx, hb, hml, hown, hts⟩ (conX4_count l D T a3 (nI 0)) (va_cwS 1 hts gX4_move_X4_count rfl rfl rfl (by decide +kernel) ⟨Nat.le_of_ble_eq_true rfl, Nat.le_of_ble_eq_true rfl⟩) (preS hK na3) rfl rfl hl.1 rfl (lv_room (Nat.le_of_ble_eq_true rfl)) dX4_move_57 ⟨Nat.le_of_ble_eq_true rfl, Nat.le_of_ble_eq_true rfl⟩).run (fun r4 hr4 => ?_)
      rw [hr4]
      rw [cntc_z]
      have ht9 : tw_move (nI k1) x2 = nI 0 := by unfold tw_move; rw [if_neg c9, if_neg c26]
      exact W.iret (v := nI 0) hx hb hr (fun t ht _ => ⟨⟨nI 0, (), rfl, by intro _; rfl, by dsimp only; rw [ht]; exact (by rw [ht9]; exact ⟨_, _, fo⟩)⟩, hS.F ht⟩) hS.2.2 dX4_move_60
    · skip
      refine lv_aload_n hx hb dX4_move_29 rfl (lv_at hl 0 rfl) ?_
      refine lv_iconst (v := nI 2) hx hb dX4_move_30 (by decide) ?_
      refine va_calli (va_runV (As := [.int (nI 2)]) (rest := []) ⟨hx, hb, hml, hown, hts⟩ (conX4_no l D T m0 (nI 0) (nI 2) (.ref (m0 + 1)) (.ref (m0 + 10))) (cwV 1 hts gX4_move_X4_no rfl rfl rfl (by decide +kernel) ⟨Nat.le_of_ble_eq_true rfl, Nat.le_of_ble_eq_true rfl⟩) (preV hK hw.o rfl hw.o) rfl rfl hl.1 rfl (lv_room (Nat.le_of_ble_eq_true rfl)) dX4_move_31 ⟨Nat.le_of_ble_eq_true rfl, Nat.le_of_ble_eq_true rfl⟩) hS (fun q _ h9 => (hA q (by have h8 : q = m0 := h9; omega))) (fun q h9 => (hA q (by have h8 : q = m0 := h9; omega))) (fun r u t H1 locs1 ht hvm hw9 hB hz1 hk1 hS => ?_)
      try dsimp only at hB
      rw [ht] at hB
      rw [hw9]
      replace hw := hw.setK hB hk1
      have ht9 : tw_move (nI k1) x2 = nI 2 := by unfold tw_move; rw [if_neg c9, if_pos c26]
      refine W.widen (k := 1) (n := 201) (by first | omega | decide) (by first | omega | decide) ?_
      exact W.iret (v := nI 0) hx hb hr (fun t ht _ => ⟨⟨nI 0, (), rfl, by exact fun h9 => absurd (ht9.symm.trans h9) (by decide), by dsimp only; rw [ht]; exact (by rw [ht9]; exact ⟨_, _, hw.o⟩)⟩, hS.F ht⟩) hS.2.2 dX4_move_34
  · skip
    refine lv_aload_n hx hb dX4_move_12 rfl (lv_at hl 0 rfl) ?_
    refine lv_iconst (v := nI 1) hx hb dX4_move_13 (by decide) ?_
    refine va_calli (va_runV (As := [.int (nI 1)]) (rest := []) ⟨hx, hb, hml, hown, hts⟩ (conX4_no l D T m0 (nI 0) (nI 1) (.ref (m0 + 1)) (.ref (m0 + 10))) (cwV 1 hts gX4_move_X4_no rfl rfl rfl (by decide +kernel) ⟨Nat.le_of_ble_eq_true rfl, Nat.le_of_ble_eq_true rfl⟩) (preV hK hw.o rfl hw.o) rfl rfl hl.1 rfl (lv_room (Nat.le_of_ble_eq_true rfl)) dX4_move_14 ⟨Nat.le_of_ble_eq_true rfl, Nat.le_of_ble_eq_true rfl⟩) hS (fun q _ h9 => (hA q (by have h8 : q = m0 := h9; omega))) (fun q h9 => (hA q (by have h8 : q = m0 := h9; omega))) (fun r u t H1 locs1 ht hvm hw9 hB hz1 hk1 hS => ?_)
    try dsimp only at hB
    rw [ht] at hB
    rw [hw9]
    replace hw := hw.setK hB hk1
    have ht9 : tw_move x1 x2 = nI 1 := by unfold tw_move; rw [if_pos c9]
    refine W.widen (k := 1) (n := 201) (by first | omega | decide) (by first | omega | decide) ?_
    exact W.iret (v := nI 0) hx hb hr (fun t ht _ => ⟨⟨nI 0, (), rfl, by exact fun h9 => absurd (ht9.symm.trans h9) (by decide), by dsimp only; rw [ht]; exact (by rw [ht9]; exact ⟨_, _, hw.o⟩)⟩, hS.F ht⟩) hS.2.2 dX4_move_17

set_option maxHeartbeats 4000000 in
set_option maxRecDepth 100000 in
theorem conX4_stretch (l : Launch) (D : va_G) (T : Nat → ClassId) (sz m0 : Nat) (th x1 x2 : Int32) : Met l yX4_stretch wsX4_stretch ({ frames := 2, cells := 1, slots := 201, locals := 42 }) (cP D T [.ref m0, .int x1, .int x2] (fun H => H.size = sz ∧ MF D T m0 th H)) (va_Qi (fun (r : Int32) (_ : Unit) => tw_stretch x1 x2 = nI 0 → r = nI 0) (fun _ t => MT D m0 (tw_stretch x1 x2) t.heap) (MA m0 sz)) 1 201 (MA m0 sz) := by
  refine Met.ofW (cc := cX4_stretch) (maxL := 5) (ret := (some .int)) (by decide) rfl ?_
  intro p e s m args below meth c s₁ B hml hv9
  obtain ⟨rfl, hK, hsz, hw⟩ := hv9
  have hx := B.exec
  have hb := B.bytes
  have hr := B.returns
  have hts := atoms_spec (ws := wsX4_stretch) B.pre
  have hown : s.vm.findClass RX4 = some m.cls := findClass_of_methodNamed B.named
  have hlocks := B.notSynchronized
  have hin4 : ∀ w ∈ wsX40, w ∈ wsX4_stretch := by decide +kernel
  generalize hAe : (MA m0 sz) = A
  have hA : ∀ q : Nat, ((m0 ≤ q ∧ q < m0 + 16) ∨ s.heap.size ≤ q) → A q := fun q h9 => by subst hAe; show (m0 ≤ q ∧ q < m0 + 16) ∨ sz ≤ q; omega
  have hS : va_S A s.heap s.heap [] := va_S.rf
  have hl := lv_entry ([.ref m0, .int x1, .int x2]) (n := 5) (Nat.le_of_ble_eq_true rfl)
  rw [lg_entry_eq]
  generalize (lg_sl ([.ref m0, .int x1, .int x2]) ++ List.replicate (5 - (lg_sl ([.ref m0, .int x1, .int x2])).length) Slot.unset).toArray = ls at hl ⊢
  have hl : lv_has ls 5 [(0, .ref m0), (1, .int x1), (2, .int x2)] := hl
  refine lv_aload_n hx hb dX4_stretch_0 rfl (lv_at hl 0 rfl) ?_
  refine lv_iconst (v := nI 0) hx hb dX4_stretch_1 (by decide) ?_
  refine q_put (v := .int (nI 0)) hx hb hts hin4 tyX4 tyX4_ok nmX4 hown hK hw.o rfl 0 (by decide) (hts (.fieldLink RX4 19 "PuddingstoneLineModel" "thrown" "I") (by decide +kernel)) (fun _ h9 => h9) rfl rfl rfl (Nat.le_of_ble_eq_true rfl) hS (hA _ (by omega)) dX4_stretch_2 (fun H1 locs1 hw9 oq hS => ?_)
  replace hw := hw.setO hw9 oq
  refine lv_iload_n hx hb dX4_stretch_5 rfl (lv_at hl 1 rfl) ?_
  refine vp_callSi (va_runS (As := [.int x1]) (rest := []) ⟨hx, hb, hml, hown, hts⟩ (conX4_isSet l D T x1) (va_cwS 1 hts gX4_stretch_X4_isSet rfl rfl rfl (by decide +kernel) ⟨Nat.le_of_ble_eq_true rfl, Nat.le_of_ble_eq_true rfl⟩) (preS hK trivial) rfl rfl hl.1 rfl (lv_room (Nat.le_of_ble_eq_true rfl)) dX4_stretch_6 ⟨Nat.le_of_ble_eq_true rfl, Nat.le_of_ble_eq_true rfl⟩).run (fun r1 hr1 => ?_)
  rw [hr1]
  refine lv_if_ne (tgt := 18) hx hb dX4_stretch_9 (by decide) (fun c9 => ?_) (fun c9 => ?_)
  · skip
    obtain ⟨k1, hk1, rfl⟩ := inM_ok (n := 7) (by decide) c9
    refine lv_iload_n hx hb dX4_stretch_18 rfl (lv_at hl 2 rfl) ?_
    refine lv_iconst (v := nI 2) hx hb dX4_stretch_19 (by decide) ?_
    refine lv_bipush (v := nI 10) hx hb dX4_stretch_20 (by decide) ?_
    refine vp_callSi (va_runS (As := [.int x2, .int (nI 2), .int (nI 10)]) (rest := []) ⟨hx, hb, hml, hown, hts⟩ (conX4_isIn l D T x2 (nI 2) (nI 10)) (va_cwS 3 hts gX4_stretch_X4_isIn rfl rfl rfl (by decide +kernel) ⟨Nat.le_of_ble_eq_true rfl, Nat.le_of_ble_eq_true rfl⟩) (preS hK trivial) rfl rfl hl.1 rfl (lv_room (Nat.le_of_ble_eq_true rfl)) dX4_stretch_22 ⟨Nat.le_of_ble_eq_true rfl, Nat.le_of_ble_eq_true rfl⟩).run (fun r2 hr2 => ?_)
    rw [hr2]
    refine lv_if_ne (tgt := 34) hx hb dX4_stretch_25 (by decide) (fun c25 => ?_) (fun c25 => ?_)
    · skip
      obtain ⟨k2, hj2, hk2, rfl⟩ := inM_okL (m := 2) (n := 10) (by decide) (by decide) c25
      refine lv_sipush (v := nI 201) hx hb dX4_stretch_34 (by decide) ?_
      obtain ⟨b1, hb1⟩ : ∃ z : Nat, z = H1.size := ⟨_, rfl⟩
      have lw_b1 : m0 + 16 ≤ b1 := by have h8 := hw.lt; omega
      have ln_b1 : s.heap.size ≤ b1 := by have h8 := hS.1; omega
      refine q_newz hx hb (hts (.arrayClass .boolean) (by decide +kernel)) hK 201 rfl (by decide) (Nat.le_of_ble_eq_true rfl) (Nat.le_of_ble_eq_true rfl) hS dX4_stretch_37 (fun H1 hw9 z1 o1 hS => ?_)
      rw [← hb1] at hw9 ⊢
      replace hw := hw.old o1
      have nb1 := hw9
      have sb1 : H1.size = b1 + 1 := by omega
      refine lv_astore_n (lv' := [(3, .ref b1), (0, .ref m0), (1, .int (nI k1)), (2, .int (nI k2))]) hx hb dX4_stretch_39 rfl hl (by decide) rfl (fun ls hl => ?_)
      refine lv_iconst (v := nI 0) hx hb dX4_stretch_40 (by decide) ?_
      refine lv_istore (lv' := [(4, .int (nI 0)), (3, .ref b1), (0, .ref m0), (1, .int (nI k1)), (2, .int (nI k2))]) hx hb dX4_stretch_41 hl (by decide) rfl (fun ls hl => ?_)
      refine q_for (fun (i : Nat) (H : Heap) (locs : List Loc) (ls : Array Slot) => va_S A s.heap H locs ∧ lv_has ls 5 [(4, .int (nI i)), (3, .ref b1), (0, .ref m0), (1, .int (nI k1)), (2, .int (nI k2))] ∧ pAt D H b1 (eN (T 0) 201 zr0) ∧ MF D T m0 (nI 0) H) (N := 201) 0 (by omega) ?_ ?_ ?_
      · skip
        exact ⟨hS, lv_sub hl [0, 1, 2, 3, 4] rfl, nb1, hw⟩
      · skip
        intro i H locs ls hi9 hin9 hnext
        obtain ⟨hS, hl, nb1, hw⟩ := hin9
        refine lv_iload hx hb dX4_stretch_43 (lv_at hl 0 rfl) ?_
        refine lv_sipush (v := nI 201) hx hb dX4_stretch_45 (by decide) ?_
        refine lv_icmp_ge (tgt := 101) hx hb dX4_stretch_48 (by decide) (fun c48 => ?_) (fun c48 => ?_)
        · skip
          have c48 : 201 ≤ i := (nc_le (a := 201) (b := i) (by omega) (by omega)).mp c48
          omega
        · skip
          have c48 : ¬ (201 ≤ i) := fun q9 => c48 ((nc_le (a := 201) (b := i) (by omega) (by omega)).mpr q9)
          refine lv_aload_n hx hb dX4_stretch_51 rfl (lv_at hl 1 rfl) ?_
          refine lv_iload hx hb dX4_stretch_52 (lv_at hl 0 rfl) ?_
          refine lv_iload hx hb dX4_stretch_54 (lv_at hl 0 rfl) ?_
          refine lv_iconst (v := nI 2) hx hb dX4_stretch_56 (by decide) ?_
          refine lv_iload_n hx hb dX4_stretch_57 rfl (lv_at hl 4 rfl) ?_
          refine lv_imul hx hb dX4_stretch_58 ?_
          rw [pk_mul]
          refine lv_irem hx hb dX4_stretch_59 (fun h9 => by have h8 := (nc_eq (a := 2 * k2) (b := 0) (by omega) (by decide)).mp h9; omega) ?_
          rw [pk_rem (a := i) (d := 2 * k2) (by omega) (by omega) (by omega)]
          refine lv_if_ne (tgt := 77) hx hb dX4_stretch_60 (by decide) (fun c60 => ?_) (fun c60 => ?_)
          · skip
            refine lv_aload_n hx hb dX4_stretch_77 rfl (lv_at hl 2 rfl) ?_
            refine q_get (v := .ref (m0 + 1)) hx hb hts hin4 hown hK hw.o rfl 1 (by decide) (hts (.fieldLink RX4 11 "PuddingstoneLineModel" "sets" "[[Z") (by decide +kernel)) (fun _ h9 => h9) rfl dX4_stretch_78 ?_
            refine lv_iload_n hx hb dX4_stretch_81 rfl (lv_at hl 3 rfl) ?_
            refine q_aald hx hb hK 4 rfl rfl hw.s k1 (rfl) (by omega) (by decide) (b := m0 + 2 + k1) rfl dX4_stretch_82 ?_
            refine lv_iconst (v := nI 2) hx hb dX4_stretch_83 (by decide) ?_
            refine lv_iload hx hb dX4_stretch_84 (lv_at hl 0 rfl) ?_
            refine lv_iconst (v := nI 2) hx hb dX4_stretch_86 (by decide) ?_
            refine lv_iload_n hx hb dX4_stretch_87 rfl (lv_at hl 4 rfl) ?_
            refine lv_imul hx hb dX4_stretch_88 ?_
            rw [pk_mul]
            refine lv_idiv hx hb dX4_stretch_89 (fun h9 => by have h8 := (nc_eq (a := 2 * k2) (b := 0) (by omega) (by decide)).mp h9; omega) ?_
            rw [pk_div (a := i) (d := 2 * k2) (by omega) (by omega) (by omega)]
            refine lv_imul hx hb dX4_stretch_90 ?_
            rw [pk_mul]
            refine lv_iconst (v := nI 1) hx hb dX4_stretch_91 (by decide) ?_
            refine lv_iadd hx hb dX4_stretch_92 ?_
            rw [nI_add]
            refine q_zald hx hb hK (hw.f k1 (by omega)) ((2 * (i / (2 * k2))) + 1) (rfl) (st_lt (by omega) (by omega)) (by decide) dX4_stretch_93 ?_
            refine W.eq (g2 := F0 m 94 ls [.int (nI 0), .int (nI i), .ref b1]) rfl ?_
            refine q_zast hx hb hK nb1 i (rfl) (by omega) (by decide) (rfl) hS (hA _ (by omega)) dX4_stretch_94 (fun H1 locs1 hw9 hz oq hS => ?_)
            replace hw := hw.ne oq (by omega)
            have nb1 := hw9
            refine lv_iinc (v := nI (i + 1)) (lv' := [(4, .int (nI (i + 1))), (3, .ref b1), (0, .ref m0), (1, .int (nI k1)), (2, .int (nI k2))]) hx hb dX4_stretch_95 hl (k := 0) rfl (inc_1 _) (by decide) rfl (fun ls hl => ?_)
            refine lv_goto (tgt := 43) hx hb dX4_stretch_98 (by decide) ?_
            have e3 : (eN (T 0) 201 (upd zr0 i (nI 0))) = (eN (T 0) 201 zr0) := by (rw [upd_z])
            exact hnext _ _ _ ⟨hS, lv_sub hl [0, 1, 2, 3, 4] rfl, (by rw [← e3]; exact nb1), hw⟩
          · skip
            refine lv_aload_n hx hb dX4_stretch_63 rfl (lv_at hl 2 rfl) ?_
            refine q_get (v := .ref (m0 + 1)) hx hb hts hin4 hown hK hw.o rfl 1 (by decide) (hts (.fieldLink RX4 11 "PuddingstoneLineModel" "sets" "[[Z") (by decide +kernel)) (fun _ h9 => h9) rfl dX4_stretch_64 ?_
            refine lv_iload_n hx hb dX4_stretch_67 rfl (lv_at hl 3 rfl) ?_
            refine q_aald hx hb hK 4 rfl rfl hw.s k1 (rfl) (by omega) (by decide) (b := m0 + 2 + k1) rfl dX4_stretch_68 ?_
            refine lv_iload hx hb dX4_stretch_69 (lv_at hl 0 rfl) ?_
            refine lv_iload_n hx hb dX4_stretch_71 rfl (lv_at hl 4 rfl) ?_
            refine lv_idiv hx hb dX4_stretch_72 (fun h9 => by have h8 := (nc_eq (a := k2) (b := 0) (by omega) (by decide)).mp h9; omega) ?_
            rw [pk_div (a := i) (d := k2) (by omega) (by omega) (by omega)]
            refine q_zald hx hb hK (hw.f k1 (by omega)) (i / k2) (rfl) (Nat.lt_of_le_of_lt (Nat.div_le_self _ _) (by omega)) (by decide) dX4_stretch_73 ?_
            refine W.eq (g2 := F0 m 74 ls [.int (nI 0), .int (nI i), .ref b1]) rfl ?_
            refine lv_goto (tgt := 94) hx hb dX4_stretch_74 (by decide) ?_
            refine q_zast hx hb hK nb1 i (rfl) (by omega) (by decide) (rfl) hS (hA _ (by omega)) dX4_stretch_94 (fun H1 locs1 hw9 hz oq hS => ?_)
            replace hw := hw.ne oq (by omega)
            have nb1 := hw9
            refine lv_iinc (v := nI (i + 1)) (lv' := [(4, .int (nI (i + 1))), (3, .ref b1), (0, .ref m0), (1, .int (nI k1)), (2, .int (nI k2))]) hx hb dX4_stretch_95 hl (k := 0) rfl (inc_1 _) (by decide) rfl (fun ls hl => ?_)
            refine lv_goto (tgt := 43) hx hb dX4_stretch_98 (by decide) ?_
            have e4 : (eN (T 0) 201 (upd zr0 i (nI 0))) = (eN (T 0) 201 zr0) := by (rw [upd_z])
            exact hnext _ _ _ ⟨hS, lv_sub hl [0, 1, 2, 3, 4] rfl, (by rw [← e4]; exact nb1), hw⟩
      · skip
        intro H locs ls hin9
        obtain ⟨hS, hl, nb1, hw⟩ := hin9
        refine lv_iload hx hb dX4_stretch_43 (lv_at hl 0 rfl) ?_
        refine lv_sipush (v := nI 201) hx hb dX4_stretch_45 (by decide) ?_
        refine lv_icmp_ge (tgt := 101) hx hb dX4_stretch_48 (by decide) (fun c48 => ?_) (fun c48 => ?_)
        · skip
          have c48 : 201 ≤ 201 := (nc_le (a := 201) (b := 201) (by omega) (by omega)).mp c48
          refine lv_aload_n hx hb dX4_stretch_101 rfl (lv_at hl 2 rfl) ?_
          refine q_get (v := .ref (m0 + 1)) hx hb hts hin4 hown hK hw.o rfl 1 (by decide) (hts (.fieldLink RX4 11 "PuddingstoneLineModel" "sets" "[[Z") (by decide +kernel)) (fun _ h9 => h9) rfl dX4_stretch_102 ?_
          refine lv_iload_n hx hb dX4_stretch_105 rfl (lv_at hl 3 rfl) ?_
          refine lv_aload_n hx hb dX4_stretch_106 rfl (lv_at hl 1 rfl) ?_
          refine q_aasta hx hb hK 4 0 (ty := .boolean) rfl rfl (hK.2.1.2.2.1) hw.s nb1 k1 (rfl) (by omega) (by decide) (hK.1.2 0 _ rfl).2 hS (hA _ (by omega)) dX4_stretch_107 (fun H1 locs1 hw9 hz oq hS => ?_)
          have fo := hw.o.ne oq (by omega)
          have fs := hw9
          replace nb1 := nb1.ne oq (by omega)
          refine lv_aload_n hx hb dX4_stretch_108 rfl (lv_at hl 1 rfl) ?_
          refine vp_callSi (va_runS (As := [.ref b1]) (rest := []) ⟨hx, hb, hml, hown, hts⟩ (conX4_count l D T b1 (nI 0)) (va_cwS 1 hts gX4_stretch_X4_count rfl rfl rfl (by decide +kernel) ⟨Nat.le_of_ble_eq_true rfl, Nat.le_of_ble_eq_true rfl⟩) (preS hK nb1) rfl rfl hl.1 rfl (lv_room (Nat.le_of_ble_eq_true rfl)) dX4_stretch_109 ⟨Nat.le_of_ble_eq_true rfl, Nat.le_of_ble_eq_true rfl⟩).run (fun r5 hr5 => ?_)
          rw [hr5]
          rw [cntc_z]
          have ht9 : tw_stretch (nI k1) (nI k2) = nI 0 := by unfold tw_stretch; rw [if_neg c9, if_neg c25]
          exact W.iret (v := nI 0) hx hb hr (fun t ht _ => ⟨⟨nI 0, (), rfl, by intro _; rfl, by dsimp only; rw [ht]; exact (by rw [ht9]; exact ⟨_, _, fo⟩)⟩, hS.F ht⟩) hS.2.2 dX4_stretch_112
        · skip
          have c48 : ¬ (201 ≤ 201) := fun q9 => c48 ((nc_le (a := 201) (b := 201) (by omega) (by omega)).mpr q9)
          omega
    · skip
      refine lv_aload_n hx hb dX4_stretch_28 rfl (lv_at hl 0 rfl) ?_
      refine lv_iconst (v := nI 2) hx hb dX4_stretch_29 (by decide) ?_
      refine va_calli (va_runV (As := [.int (nI 2)]) (rest := []) ⟨hx, hb, hml, hown, hts⟩ (conX4_no l D T m0 (nI 0) (nI 2) (.ref (m0 + 1)) (.ref (m0 + 10))) (cwV 1 hts gX4_stretch_X4_no rfl rfl rfl (by decide +kernel) ⟨Nat.le_of_ble_eq_true rfl, Nat.le_of_ble_eq_true rfl⟩) (preV hK hw.o rfl hw.o) rfl rfl hl.1 rfl (lv_room (Nat.le_of_ble_eq_true rfl)) dX4_stretch_30 ⟨Nat.le_of_ble_eq_true rfl, Nat.le_of_ble_eq_true rfl⟩) hS (fun q _ h9 => (hA q (by have h8 : q = m0 := h9; omega))) (fun q h9 => (hA q (by have h8 : q = m0 := h9; omega))) (fun r u t H1 locs1 ht hvm hw9 hB hz1 hk1 hS => ?_)
      try dsimp only at hB
      rw [ht] at hB
      rw [hw9]
      replace hw := hw.setK hB hk1
      have ht9 : tw_stretch (nI k1) x2 = nI 2 := by unfold tw_stretch; rw [if_neg c9, if_pos c25]
      refine W.widen (k := 1) (n := 201) (by first | omega | decide) (by first | omega | decide) ?_
      exact W.iret (v := nI 0) hx hb hr (fun t ht _ => ⟨⟨nI 0, (), rfl, by exact fun h9 => absurd (ht9.symm.trans h9) (by decide), by dsimp only; rw [ht]; exact (by rw [ht9]; exact ⟨_, _, hw.o⟩)⟩, hS.F ht⟩) hS.2.2 dX4_stretch_33
  · skip
    refine lv_aload_n hx hb dX4_stretch_12 rfl (lv_at hl 0 rfl) ?_
    refine lv_iconst (v := nI 1) hx hb dX4_stretch_13 (by decide) ?_
    refine va_calli (va_runV (As := [.int (nI 1)]) (rest := []) ⟨hx, hb, hml, hown, hts⟩ (conX4_no l D T m0 (nI 0) (nI 1) (.ref (m0 + 1)) (.ref (m0 + 10))) (cwV 1 hts gX4_stretch_X4_no rfl rfl rfl (by decide +kernel) ⟨Nat.le_of_ble_eq_true rfl, Nat.le_of_ble_eq_true rfl⟩) (preV hK hw.o rfl hw.o) rfl rfl hl.1 rfl (lv_room (Nat.le_of_ble_eq_true rfl)) dX4_stretch_14 ⟨Nat.le_of_ble_eq_true rfl, Nat.le_of_ble_eq_true rfl⟩) hS (fun q _ h9 => (hA q (by have h8 : q = m0 := h9; omega))) (fun q h9 => (hA q (by have h8 : q = m0 := h9; omega))) (fun r u t H1 locs1 ht hvm hw9 hB hz1 hk1 hS => ?_)
    try dsimp only at hB
    rw [ht] at hB
    rw [hw9]
    replace hw := hw.setK hB hk1
    have ht9 : tw_stretch x1 x2 = nI 1 := by unfold tw_stretch; rw [if_pos c9]
    refine W.widen (k := 1) (n := 201) (by first | omega | decide) (by first | omega | decide) ?_
    exact W.iret (v := nI 0) hx hb hr (fun t ht _ => ⟨⟨nI 0, (), rfl, by exact fun h9 => absurd (ht9.symm.trans h9) (by decide), by dsimp only; rw [ht]; exact (by rw [ht9]; exact ⟨_, _, hw.o⟩)⟩, hS.F ht⟩) hS.2.2 dX4_stretch_17

set_option maxHeartbeats 4000000 in
set_option maxRecDepth 100000 in
theorem conX4_set (l : Launch) (D : va_G) (T : Nat → ClassId) (sz m0 : Nat) (th x1 x2 x3 : Int32) : Met l yX4_set wsX4_set ({ frames := 2, cells := 0, slots := 0, locals := 42 }) (cP D T [.ref m0, .int x1, .int x2, .int x3] (fun H => H.size = sz ∧ MF D T m0 th H)) (va_Qi (fun (r : Int32) (_ : Unit) => tw_set x1 x2 x3 = nI 0 → r = nI 1) (fun _ t => MT D m0 (tw_set x1 x2 x3) t.heap) (MA m0 sz)) 0 0 (MA m0 sz) := by
  refine Met.ofW (cc := cX4_set) (maxL := 5) (ret := (some .int)) (by decide) rfl ?_
  intro p e s m args below meth c s₁ B hml hv9
  obtain ⟨rfl, hK, hsz, hw⟩ := hv9
  have hx := B.exec
  have hb := B.bytes
  have hr := B.returns
  have hts := atoms_spec (ws := wsX4_set) B.pre
  have hown : s.vm.findClass RX4 = some m.cls := findClass_of_methodNamed B.named
  have hlocks := B.notSynchronized
  have hin4 : ∀ w ∈ wsX40, w ∈ wsX4_set := by decide +kernel
  generalize hAe : (MA m0 sz) = A
  have hA : ∀ q : Nat, ((m0 ≤ q ∧ q < m0 + 16) ∨ s.heap.size ≤ q) → A q := fun q h9 => by subst hAe; show (m0 ≤ q ∧ q < m0 + 16) ∨ sz ≤ q; omega
  have hS : va_S A s.heap s.heap [] := va_S.rf
  have hl := lv_entry ([.ref m0, .int x1, .int x2, .int x3]) (n := 5) (Nat.le_of_ble_eq_true rfl)
  rw [lg_entry_eq]
  generalize (lg_sl ([.ref m0, .int x1, .int x2, .int x3]) ++ List.replicate (5 - (lg_sl ([.ref m0, .int x1, .int x2, .int x3])).length) Slot.unset).toArray = ls at hl ⊢
  have hl : lv_has ls 5 [(0, .ref m0), (1, .int x1), (2, .int x2), (3, .int x3)] := hl
  refine lv_aload_n hx hb dX4_set_0 rfl (lv_at hl 0 rfl) ?_
  refine lv_iconst (v := nI 0) hx hb dX4_set_1 (by decide) ?_
  refine q_put (v := .int (nI 0)) hx hb hts hin4 tyX4 tyX4_ok nmX4 hown hK hw.o rfl 0 (by decide) (hts (.fieldLink RX4 19 "PuddingstoneLineModel" "thrown" "I") (by decide +kernel)) (fun _ h9 => h9) rfl rfl rfl (Nat.le_of_ble_eq_true rfl) hS (hA _ (by omega)) dX4_set_2 (fun H1 locs1 hw9 oq hS => ?_)
  replace hw := hw.setO hw9 oq
  refine lv_iload_n hx hb dX4_set_5 rfl (lv_at hl 1 rfl) ?_
  refine vp_callSi (va_runS (As := [.int x1]) (rest := []) ⟨hx, hb, hml, hown, hts⟩ (conX4_isFunction l D T x1) (va_cwS 1 hts gX4_set_X4_isFunction rfl rfl rfl (by decide +kernel) ⟨Nat.le_of_ble_eq_true rfl, Nat.le_of_ble_eq_true rfl⟩) (preS hK trivial) rfl rfl hl.1 rfl (lv_room (Nat.le_of_ble_eq_true rfl)) dX4_set_6 ⟨Nat.le_of_ble_eq_true rfl, Nat.le_of_ble_eq_true rfl⟩).run (fun r1 hr1 => ?_)
  rw [hr1]
  refine lv_if_eq (tgt := 19) hx hb dX4_set_9 (by decide) (fun c9 => ?_) (fun c9 => ?_)
  · skip
    refine lv_aload_n hx hb dX4_set_19 rfl (lv_at hl 0 rfl) ?_
    refine lv_iconst (v := nI 1) hx hb dX4_set_20 (by decide) ?_
    refine va_calli (va_runV (As := [.int (nI 1)]) (rest := []) ⟨hx, hb, hml, hown, hts⟩ (conX4_no l D T m0 (nI 0) (nI 1) (.ref (m0 + 1)) (.ref (m0 + 10))) (cwV 1 hts gX4_set_X4_no rfl rfl rfl (by decide +kernel) ⟨Nat.le_of_ble_eq_true rfl, Nat.le_of_ble_eq_true rfl⟩) (preV hK hw.o rfl hw.o) rfl rfl hl.1 rfl (lv_room (Nat.le_of_ble_eq_true rfl)) dX4_set_21 ⟨Nat.le_of_ble_eq_true rfl, Nat.le_of_ble_eq_true rfl⟩) hS (fun q _ h9 => (hA q (by have h8 : q = m0 := h9; omega))) (fun q h9 => (hA q (by have h8 : q = m0 := h9; omega))) (fun r u t H1 locs1 ht hvm hw9 hB hz1 hk1 hS => ?_)
    try dsimp only at hB
    rw [ht] at hB
    rw [hw9]
    replace hw := hw.setK hB hk1
    have ht9 : tw_set x1 x2 x3 = nI 1 := by unfold tw_set; rw [if_pos c9]
    exact W.iret (v := nI 0) hx hb hr (fun t ht _ => ⟨⟨nI 0, (), rfl, by exact fun h9 => absurd (ht9.symm.trans h9) (by decide), by dsimp only; rw [ht]; exact (by rw [ht9]; exact ⟨_, _, hw.o⟩)⟩, hS.F ht⟩) hS.2.2 dX4_set_24
  · skip
    obtain ⟨k1, hk1, rfl⟩ := inM_ok (n := 4) (by decide) c9
    refine lv_iload_n hx hb dX4_set_12 rfl (lv_at hl 2 rfl) ?_
    refine vp_callSi (va_runS (As := [.int x2]) (rest := []) ⟨hx, hb, hml, hown, hts⟩ (conX4_isSet l D T x2) (va_cwS 1 hts gX4_set_X4_isSet rfl rfl rfl (by decide +kernel) ⟨Nat.le_of_ble_eq_true rfl, Nat.le_of_ble_eq_true rfl⟩) (preS hK trivial) rfl rfl hl.1 rfl (lv_room (Nat.le_of_ble_eq_true rfl)) dX4_set_13 ⟨Nat.le_of_ble_eq_true rfl, Nat.le_of_ble_eq_true rfl⟩).run (fun r2 hr2 => ?_)
    rw [hr2]
    refine lv_if_ne (tgt := 25) hx hb dX4_set_16 (by decide) (fun c16 => ?_) (fun c16 => ?_)
    · skip
      obtain ⟨k2, hk2, rfl⟩ := inM_ok (n := 7) (by decide) c16
      refine lv_iload_n hx hb dX4_set_25 rfl (lv_at hl 3 rfl) ?_
      refine lv_sipush (v := (-10000)) hx hb dX4_set_26 (by decide) ?_
      refine lv_sipush (v := nI 10000) hx hb dX4_set_29 (by decide) ?_
      refine vp_callSi (va_runS (As := [.int x3, .int (-10000), .int (nI 10000)]) (rest := []) ⟨hx, hb, hml, hown, hts⟩ (conX4_isIn l D T x3 (-10000) (nI 10000)) (va_cwS 3 hts gX4_set_X4_isIn rfl rfl rfl (by decide +kernel) ⟨Nat.le_of_ble_eq_true rfl, Nat.le_of_ble_eq_true rfl⟩) (preS hK trivial) rfl rfl hl.1 rfl (lv_room (Nat.le_of_ble_eq_true rfl)) dX4_set_32 ⟨Nat.le_of_ble_eq_true rfl, Nat.le_of_ble_eq_true rfl⟩).run (fun r3 hr3 => ?_)
      rw [hr3]
      refine lv_if_ne (tgt := 44) hx hb dX4_set_35 (by decide) (fun c35 => ?_) (fun c35 => ?_)
      · skip
        refine lv_iconst (v := nI 0) hx hb dX4_set_44 (by decide) ?_
        refine lv_istore (lv' := [(4, .int (nI 0)), (0, .ref m0), (1, .int (nI k1)), (2, .int (nI k2)), (3, .int x3)]) hx hb dX4_set_45 hl (by decide) rfl (fun ls hl => ?_)
        refine q_for (fun (i : Nat) (H : Heap) (locs : List Loc) (ls : Array Slot) => va_S A s.heap H locs ∧ lv_has ls 5 [(4, .int (nI i)), (0, .ref m0), (1, .int (nI k1)), (2, .int (nI k2)), (3, .int x3)] ∧ MF D T m0 (nI 0) H) (N := 201) 0 (by omega) ?_ ?_ ?_
        · skip
          exact ⟨hS, lv_sub hl [0, 1, 2, 3, 4] rfl, hw⟩
        · skip
          intro i H locs ls hi9 hin9 hnext
          obtain ⟨hS, hl, hw⟩ := hin9
          refine lv_iload hx hb dX4_set_47 (lv_at hl 0 rfl) ?_
          refine lv_sipush (v := nI 201) hx hb dX4_set_49 (by decide) ?_
          refine lv_icmp_ge (tgt := 83) hx hb dX4_set_52 (by decide) (fun c52 => ?_) (fun c52 => ?_)
          · skip
            have c52 : 201 ≤ i := (nc_le (a := 201) (b := i) (by omega) (by omega)).mp c52
            omega
          · skip
            have c52 : ¬ (201 ≤ i) := fun q9 => c52 ((nc_le (a := 201) (b := i) (by omega) (by omega)).mpr q9)
            refine lv_aload_n hx hb dX4_set_55 rfl (lv_at hl 1 rfl) ?_
            refine q_get (v := .ref (m0 + 1)) hx hb hts hin4 hown hK hw.o rfl 1 (by decide) (hts (.fieldLink RX4 11 "PuddingstoneLineModel" "sets" "[[Z") (by decide +kernel)) (fun _ h9 => h9) rfl dX4_set_56 ?_
            refine lv_iload_n hx hb dX4_set_59 rfl (lv_at hl 3 rfl) ?_
            refine q_aald hx hb hK 4 rfl rfl hw.s k2 (rfl) (by omega) (by decide) (b := m0 + 2 + k2) rfl dX4_set_60 ?_
            refine lv_iload hx hb dX4_set_61 (lv_at hl 0 rfl) ?_
            refine q_zald hx hb hK (hw.f k2 (by omega)) i (rfl) (by omega) (by decide) dX4_set_63 ?_
            refine W.eq (g2 := F0 m 64 ls [.int (nI 0)]) rfl ?_
            refine lv_if_eq (tgt := 77) hx hb dX4_set_64 (by decide) (fun c64 => ?_) (fun c64 => ?_)
            · skip
              have c64 : 0 = 0 := (nc_eq (a := 0) (b := 0) (by omega) (by omega)).mp c64
              refine lv_iinc (v := nI (i + 1)) (lv' := [(4, .int (nI (i + 1))), (0, .ref m0), (1, .int (nI k1)), (2, .int (nI k2)), (3, .int x3)]) hx hb dX4_set_77 hl (k := 0) rfl (inc_1 _) (by decide) rfl (fun ls hl => ?_)
              refine lv_goto (tgt := 47) hx hb dX4_set_80 (by decide) ?_
              exact hnext _ _ _ ⟨hS, lv_sub hl [0, 1, 2, 3, 4] rfl, hw⟩
            · skip
              have c64 : ¬ (0 = 0) := fun q9 => c64 ((nc_eq (a := 0) (b := 0) (by omega) (by omega)).mpr q9)
              omega
        · skip
          intro H locs ls hin9
          obtain ⟨hS, hl, hw⟩ := hin9
          refine lv_iload hx hb dX4_set_47 (lv_at hl 0 rfl) ?_
          refine lv_sipush (v := nI 201) hx hb dX4_set_49 (by decide) ?_
          refine lv_icmp_ge (tgt := 83) hx hb dX4_set_52 (by decide) (fun c52 => ?_) (fun c52 => ?_)
          · skip
            have c52 : 201 ≤ 201 := (nc_le (a := 201) (b := 201) (by omega) (by omega)).mp c52
            refine lv_aload_n hx hb dX4_set_83 rfl (lv_at hl 1 rfl) ?_
            refine q_get (v := .ref (m0 + 10)) hx hb hts hin4 hown hK hw.o rfl 2 (by decide) (hts (.fieldLink RX4 16 "PuddingstoneLineModel" "values" "[[I") (by decide +kernel)) (fun _ h9 => h9) rfl dX4_set_84 ?_
            refine lv_iload_n hx hb dX4_set_87 rfl (lv_at hl 2 rfl) ?_
            refine q_aald hx hb hK 5 rfl rfl hw.v k1 (rfl) (by omega) (by decide) (b := m0 + 11 + k1) rfl dX4_set_88 ?_
            refine vp_callSi (va_runS (As := [.ref (m0 + 11 + k1)]) (rest := []) ⟨hx, hb, hml, hown, hts⟩ (conX4_steps l D T (m0 + 11 + k1) zr0) (va_cwS 1 hts gX4_set_X4_steps rfl rfl rfl (by decide +kernel) ⟨Nat.le_of_ble_eq_true rfl, Nat.le_of_ble_eq_true rfl⟩) (preS hK ((hw.g k1 (by omega)))) rfl rfl hl.1 rfl (lv_room (Nat.le_of_ble_eq_true rfl)) dX4_set_89 ⟨Nat.le_of_ble_eq_true rfl, Nat.le_of_ble_eq_true rfl⟩).run (fun r4 hr4 => ?_)
            rw [hr4]
            rw [stpM_z]
            have ht9 : tw_set (nI k1) (nI k2) x3 = nI 0 := by unfold tw_set; rw [if_neg c9, if_neg c16, if_neg c35]
            exact W.iret (v := nI 1) hx hb hr (fun t ht _ => ⟨⟨nI 1, (), rfl, by intro _; rfl, by dsimp only; rw [ht]; exact (by rw [ht9]; exact ⟨_, _, hw.o⟩)⟩, hS.F ht⟩) hS.2.2 dX4_set_92
          · skip
            have c52 : ¬ (201 ≤ 201) := fun q9 => c52 ((nc_le (a := 201) (b := 201) (by omega) (by omega)).mpr q9)
            omega
      · skip
        refine lv_aload_n hx hb dX4_set_38 rfl (lv_at hl 0 rfl) ?_
        refine lv_iconst (v := nI 2) hx hb dX4_set_39 (by decide) ?_
        refine va_calli (va_runV (As := [.int (nI 2)]) (rest := []) ⟨hx, hb, hml, hown, hts⟩ (conX4_no l D T m0 (nI 0) (nI 2) (.ref (m0 + 1)) (.ref (m0 + 10))) (cwV 1 hts gX4_set_X4_no rfl rfl rfl (by decide +kernel) ⟨Nat.le_of_ble_eq_true rfl, Nat.le_of_ble_eq_true rfl⟩) (preV hK hw.o rfl hw.o) rfl rfl hl.1 rfl (lv_room (Nat.le_of_ble_eq_true rfl)) dX4_set_40 ⟨Nat.le_of_ble_eq_true rfl, Nat.le_of_ble_eq_true rfl⟩) hS (fun q _ h9 => (hA q (by have h8 : q = m0 := h9; omega))) (fun q h9 => (hA q (by have h8 : q = m0 := h9; omega))) (fun r u t H1 locs1 ht hvm hw9 hB hz1 hk1 hS => ?_)
        try dsimp only at hB
        rw [ht] at hB
        rw [hw9]
        replace hw := hw.setK hB hk1
        have ht9 : tw_set (nI k1) (nI k2) x3 = nI 2 := by unfold tw_set; rw [if_neg c9, if_neg c16, if_pos c35]
        exact W.iret (v := nI 0) hx hb hr (fun t ht _ => ⟨⟨nI 0, (), rfl, by exact fun h9 => absurd (ht9.symm.trans h9) (by decide), by dsimp only; rw [ht]; exact (by rw [ht9]; exact ⟨_, _, hw.o⟩)⟩, hS.F ht⟩) hS.2.2 dX4_set_43
    · skip
      refine lv_aload_n hx hb dX4_set_19 rfl (lv_at hl 0 rfl) ?_
      refine lv_iconst (v := nI 1) hx hb dX4_set_20 (by decide) ?_
      refine va_calli (va_runV (As := [.int (nI 1)]) (rest := []) ⟨hx, hb, hml, hown, hts⟩ (conX4_no l D T m0 (nI 0) (nI 1) (.ref (m0 + 1)) (.ref (m0 + 10))) (cwV 1 hts gX4_set_X4_no rfl rfl rfl (by decide +kernel) ⟨Nat.le_of_ble_eq_true rfl, Nat.le_of_ble_eq_true rfl⟩) (preV hK hw.o rfl hw.o) rfl rfl hl.1 rfl (lv_room (Nat.le_of_ble_eq_true rfl)) dX4_set_21 ⟨Nat.le_of_ble_eq_true rfl, Nat.le_of_ble_eq_true rfl⟩) hS (fun q _ h9 => (hA q (by have h8 : q = m0 := h9; omega))) (fun q h9 => (hA q (by have h8 : q = m0 := h9; omega))) (fun r u t H1 locs1 ht hvm hw9 hB hz1 hk1 hS => ?_)
      try dsimp only at hB
      rw [ht] at hB
      rw [hw9]
      replace hw := hw.setK hB hk1
      have ht9 : tw_set (nI k1) x2 x3 = nI 1 := by unfold tw_set; rw [if_neg c9, if_pos c16]
      exact W.iret (v := nI 0) hx hb hr (fun t ht _ => ⟨⟨nI 0, (), rfl, by exact fun h9 => absurd (ht9.symm.trans h9) (by decide), by dsimp only; rw [ht]; exact (by rw [ht9]; exact ⟨_, _, hw.o⟩)⟩, hS.F ht⟩) hS.2.2 dX4_set_24

set_option maxHeartbeats 4000000 in
set_option maxRecDepth 100000 in
theorem conX4_mix (l : Launch) (D : va_G) (T : Nat → ClassId) (sz m0 : Nat) (th x1 x2 x3 x4 : Int32) : Met l yX4_mix wsX4_mix ({ frames := 2, cells := 1, slots := 201, locals := 42 }) (cP D T [.ref m0, .int x1, .int x2, .int x3, .int x4] (fun H => H.size = sz ∧ MF D T m0 th H)) (va_Qi (fun (r : Int32) (_ : Unit) => tw_mix x1 x2 x3 x4 = nI 0 → r = nI 1) (fun _ t => MT D m0 (tw_mix x1 x2 x3 x4) t.heap) (MA m0 sz)) 1 201 (MA m0 sz) := by
  refine Met.ofW (cc := cX4_mix) (maxL := 7) (ret := (some .int)) (by decide) rfl ?_
  intro p e s m args below meth c s₁ B hml hv9
  obtain ⟨rfl, hK, hsz, hw⟩ := hv9
  have hx := B.exec
  have hb := B.bytes
  have hr := B.returns
  have hts := atoms_spec (ws := wsX4_mix) B.pre
  have hown : s.vm.findClass RX4 = some m.cls := findClass_of_methodNamed B.named
  have hlocks := B.notSynchronized
  have hin4 : ∀ w ∈ wsX40, w ∈ wsX4_mix := by decide +kernel
  generalize hAe : (MA m0 sz) = A
  have hA : ∀ q : Nat, ((m0 ≤ q ∧ q < m0 + 16) ∨ s.heap.size ≤ q) → A q := fun q h9 => by subst hAe; show (m0 ≤ q ∧ q < m0 + 16) ∨ sz ≤ q; omega
  have hS : va_S A s.heap s.heap [] := va_S.rf
  have hl := lv_entry ([.ref m0, .int x1, .int x2, .int x3, .int x4]) (n := 7) (Nat.le_of_ble_eq_true rfl)
  rw [lg_entry_eq]
  generalize (lg_sl ([.ref m0, .int x1, .int x2, .int x3, .int x4]) ++ List.replicate (7 - (lg_sl ([.ref m0, .int x1, .int x2, .int x3, .int x4])).length) Slot.unset).toArray = ls at hl ⊢
  have hl : lv_has ls 7 [(0, .ref m0), (1, .int x1), (2, .int x2), (3, .int x3), (4, .int x4)] := hl
  refine lv_aload_n hx hb dX4_mix_0 rfl (lv_at hl 0 rfl) ?_
  refine lv_iconst (v := nI 0) hx hb dX4_mix_1 (by decide) ?_
  refine q_put (v := .int (nI 0)) hx hb hts hin4 tyX4 tyX4_ok nmX4 hown hK hw.o rfl 0 (by decide) (hts (.fieldLink RX4 19 "PuddingstoneLineModel" "thrown" "I") (by decide +kernel)) (fun _ h9 => h9) rfl rfl rfl (Nat.le_of_ble_eq_true rfl) hS (hA _ (by omega)) dX4_mix_2 (fun H1 locs1 hw9 oq hS => ?_)
  replace hw := hw.setO hw9 oq
  refine lv_iload_n hx hb dX4_mix_5 rfl (lv_at hl 1 rfl) ?_
  refine vp_callSi (va_runS (As := [.int x1]) (rest := []) ⟨hx, hb, hml, hown, hts⟩ (conX4_isFunction l D T x1) (va_cwS 1 hts gX4_mix_X4_isFunction rfl rfl rfl (by decide +kernel) ⟨Nat.le_of_ble_eq_true rfl, Nat.le_of_ble_eq_true rfl⟩) (preS hK trivial) rfl rfl hl.1 rfl (lv_room (Nat.le_of_ble_eq_true rfl)) dX4_mix_6 ⟨Nat.le_of_ble_eq_true rfl, Nat.le_of_ble_eq_true rfl⟩).run (fun r1 hr1 => ?_)
  rw [hr1]
  refine lv_if_eq (tgt := 26) hx hb dX4_mix_9 (by decide) (fun c9 => ?_) (fun c9 => ?_)
  · skip
    refine lv_aload_n hx hb dX4_mix_26 rfl (lv_at hl 0 rfl) ?_
    refine lv_iconst (v := nI 1) hx hb dX4_mix_27 (by decide) ?_
    refine va_calli (va_runV (As := [.int (nI 1)]) (rest := []) ⟨hx, hb, hml, hown, hts⟩ (conX4_no l D T m0 (nI 0) (nI 1) (.ref (m0 + 1)) (.ref (m0 + 10))) (cwV 1 hts gX4_mix_X4_no rfl rfl rfl (by decide +kernel) ⟨Nat.le_of_ble_eq_true rfl, Nat.le_of_ble_eq_true rfl⟩) (preV hK hw.o rfl hw.o) rfl rfl hl.1 rfl (lv_room (Nat.le_of_ble_eq_true rfl)) dX4_mix_28 ⟨Nat.le_of_ble_eq_true rfl, Nat.le_of_ble_eq_true rfl⟩) hS (fun q _ h9 => (hA q (by have h8 : q = m0 := h9; omega))) (fun q h9 => (hA q (by have h8 : q = m0 := h9; omega))) (fun r u t H1 locs1 ht hvm hw9 hB hz1 hk1 hS => ?_)
    try dsimp only at hB
    rw [ht] at hB
    rw [hw9]
    replace hw := hw.setK hB hk1
    have ht9 : tw_mix x1 x2 x3 x4 = nI 1 := by unfold tw_mix; rw [if_pos c9]
    refine W.widen (k := 1) (n := 201) (by first | omega | decide) (by first | omega | decide) ?_
    exact W.iret (v := nI 0) hx hb hr (fun t ht _ => ⟨⟨nI 0, (), rfl, by exact fun h9 => absurd (ht9.symm.trans h9) (by decide), by dsimp only; rw [ht]; exact (by rw [ht9]; exact ⟨_, _, hw.o⟩)⟩, hS.F ht⟩) hS.2.2 dX4_mix_31
  · skip
    obtain ⟨k1, hk1, rfl⟩ := inM_ok (n := 4) (by decide) c9
    refine lv_iload_n hx hb dX4_mix_12 rfl (lv_at hl 2 rfl) ?_
    refine vp_callSi (va_runS (As := [.int x2]) (rest := []) ⟨hx, hb, hml, hown, hts⟩ (conX4_isFunction l D T x2) (va_cwS 1 hts gX4_mix_X4_isFunction rfl rfl rfl (by decide +kernel) ⟨Nat.le_of_ble_eq_true rfl, Nat.le_of_ble_eq_true rfl⟩) (preS hK trivial) rfl rfl hl.1 rfl (lv_room (Nat.le_of_ble_eq_true rfl)) dX4_mix_13 ⟨Nat.le_of_ble_eq_true rfl, Nat.le_of_ble_eq_true rfl⟩).run (fun r2 hr2 => ?_)
    rw [hr2]
    refine lv_if_eq (tgt := 26) hx hb dX4_mix_16 (by decide) (fun c16 => ?_) (fun c16 => ?_)
    · skip
      refine lv_aload_n hx hb dX4_mix_26 rfl (lv_at hl 0 rfl) ?_
      refine lv_iconst (v := nI 1) hx hb dX4_mix_27 (by decide) ?_
      refine va_calli (va_runV (As := [.int (nI 1)]) (rest := []) ⟨hx, hb, hml, hown, hts⟩ (conX4_no l D T m0 (nI 0) (nI 1) (.ref (m0 + 1)) (.ref (m0 + 10))) (cwV 1 hts gX4_mix_X4_no rfl rfl rfl (by decide +kernel) ⟨Nat.le_of_ble_eq_true rfl, Nat.le_of_ble_eq_true rfl⟩) (preV hK hw.o rfl hw.o) rfl rfl hl.1 rfl (lv_room (Nat.le_of_ble_eq_true rfl)) dX4_mix_28 ⟨Nat.le_of_ble_eq_true rfl, Nat.le_of_ble_eq_true rfl⟩) hS (fun q _ h9 => (hA q (by have h8 : q = m0 := h9; omega))) (fun q h9 => (hA q (by have h8 : q = m0 := h9; omega))) (fun r u t H1 locs1 ht hvm hw9 hB hz1 hk1 hS => ?_)
      try dsimp only at hB
      rw [ht] at hB
      rw [hw9]
      replace hw := hw.setK hB hk1
      have ht9 : tw_mix (nI k1) x2 x3 x4 = nI 1 := by unfold tw_mix; rw [if_neg c9, if_pos c16]
      refine W.widen (k := 1) (n := 201) (by first | omega | decide) (by first | omega | decide) ?_
      exact W.iret (v := nI 0) hx hb hr (fun t ht _ => ⟨⟨nI 0, (), rfl, by exact fun h9 => absurd (ht9.symm.trans h9) (by decide), by dsimp only; rw [ht]; exact (by rw [ht9]; exact ⟨_, _, hw.o⟩)⟩, hS.F ht⟩) hS.2.2 dX4_mix_31
    · skip
      obtain ⟨k2, hk2, rfl⟩ := inM_ok (n := 4) (by decide) c16
      refine lv_iload_n hx hb dX4_mix_19 rfl (lv_at hl 3 rfl) ?_
      refine vp_callSi (va_runS (As := [.int x3]) (rest := []) ⟨hx, hb, hml, hown, hts⟩ (conX4_isFunction l D T x3) (va_cwS 1 hts gX4_mix_X4_isFunction rfl rfl rfl (by decide +kernel) ⟨Nat.le_of_ble_eq_true rfl, Nat.le_of_ble_eq_true rfl⟩) (preS hK trivial) rfl rfl hl.1 rfl (lv_room (Nat.le_of_ble_eq_true rfl)) dX4_mix_20 ⟨Nat.le_of_ble_eq_true rfl, Nat.le_of_ble_eq_true rfl⟩).run (fun r3 hr3 => ?_)
      rw [hr3]
      refine lv_if_ne (tgt := 32) hx hb dX4_mix_23 (by decide) (fun c23 => ?_) (fun c23 => ?_)
      · skip
        obtain ⟨k3, hk3, rfl⟩ := inM_ok (n := 4) (by decide) c23
        refine lv_iload hx hb dX4_mix_32 (lv_at hl 4 rfl) ?_
        refine lv_iconst (v := nI 0) hx hb dX4_mix_34 (by decide) ?_
        refine lv_iconst (v := nI 4) hx hb dX4_mix_35 (by decide) ?_
        refine vp_callSi (va_runS (As := [.int x4, .int (nI 0), .int (nI 4)]) (rest := []) ⟨hx, hb, hml, hown, hts⟩ (conX4_isIn l D T x4 (nI 0) (nI 4)) (va_cwS 3 hts gX4_mix_X4_isIn rfl rfl rfl (by decide +kernel) ⟨Nat.le_of_ble_eq_true rfl, Nat.le_of_ble_eq_true rfl⟩) (preS hK trivial) rfl rfl hl.1 rfl (lv_room (Nat.le_of_ble_eq_true rfl)) dX4_mix_36 ⟨Nat.le_of_ble_eq_true rfl, Nat.le_of_ble_eq_true rfl⟩).run (fun r4 hr4 => ?_)
        rw [hr4]
        refine lv_if_ne (tgt := 48) hx hb dX4_mix_39 (by decide) (fun c39 => ?_) (fun c39 => ?_)
        · skip
          obtain ⟨k4, hk4, rfl⟩ := inM_ok (n := 4) (by decide) c39
          refine lv_sipush (v := nI 201) hx hb dX4_mix_48 (by decide) ?_
          obtain ⟨b1, hb1⟩ : ∃ z : Nat, z = H1.size := ⟨_, rfl⟩
          have lw_b1 : m0 + 16 ≤ b1 := by have h8 := hw.lt; omega
          have ln_b1 : s.heap.size ≤ b1 := by have h8 := hS.1; omega
          refine q_newi hx hb (hts (.arrayClass .int) (by decide +kernel)) hK 201 rfl (by decide) (Nat.le_of_ble_eq_true rfl) (Nat.le_of_ble_eq_true rfl) hS dX4_mix_51 (fun H1 hw9 z1 o1 hS => ?_)
          rw [← hb1] at hw9 ⊢
          replace hw := hw.old o1
          have nb1 := hw9
          have sb1 : H1.size = b1 + 1 := by omega
          refine lv_astore (lv' := [(5, .ref b1), (0, .ref m0), (1, .int (nI k1)), (2, .int (nI k2)), (3, .int (nI k3)), (4, .int (nI k4))]) hx hb dX4_mix_53 hl (by decide) rfl (fun ls hl => ?_)
          refine lv_iconst (v := nI 0) hx hb dX4_mix_55 (by decide) ?_
          refine lv_istore (lv' := [(6, .int (nI 0)), (5, .ref b1), (0, .ref m0), (1, .int (nI k1)), (2, .int (nI k2)), (3, .int (nI k3)), (4, .int (nI k4))]) hx hb dX4_mix_56 hl (by decide) rfl (fun ls hl => ?_)
          refine q_for (fun (i : Nat) (H : Heap) (locs : List Loc) (ls : Array Slot) => va_S A s.heap H locs ∧ lv_has ls 7 [(6, .int (nI i)), (5, .ref b1), (0, .ref m0), (1, .int (nI k1)), (2, .int (nI k2)), (3, .int (nI k3)), (4, .int (nI k4))] ∧ pAt D H b1 (eN (T 1) 201 zr0) ∧ MF D T m0 (nI 0) H) (N := 201) 0 (by omega) ?_ ?_ ?_
          · skip
            exact ⟨hS, lv_sub hl [0, 1, 2, 3, 4, 5, 6] rfl, nb1, hw⟩
          · skip
            intro i H locs ls hi9 hin9 hnext
            obtain ⟨hS, hl, nb1, hw⟩ := hin9
            refine lv_iload hx hb dX4_mix_58 (lv_at hl 0 rfl) ?_
            refine lv_sipush (v := nI 201) hx hb dX4_mix_60 (by decide) ?_
            refine lv_icmp_ge (tgt := 103) hx hb dX4_mix_63 (by decide) (fun c63 => ?_) (fun c63 => ?_)
            · skip
              have c63 : 201 ≤ i := (nc_le (a := 201) (b := i) (by omega) (by omega)).mp c63
              omega
            · skip
              have c63 : ¬ (201 ≤ i) := fun q9 => c63 ((nc_le (a := 201) (b := i) (by omega) (by omega)).mpr q9)
              refine lv_aload hx hb dX4_mix_66 (lv_at hl 1 rfl) ?_
              refine lv_iload hx hb dX4_mix_68 (lv_at hl 0 rfl) ?_
              refine lv_aload_n hx hb dX4_mix_70 rfl (lv_at hl 2 rfl) ?_
              refine q_get (v := .ref (m0 + 10)) hx hb hts hin4 hown hK hw.o rfl 2 (by decide) (hts (.fieldLink RX4 16 "PuddingstoneLineModel" "values" "[[I") (by decide +kernel)) (fun _ h9 => h9) rfl dX4_mix_71 ?_
              refine lv_iload_n hx hb dX4_mix_74 rfl (lv_at hl 4 rfl) ?_
              refine q_aald hx hb hK 5 rfl rfl hw.v k2 (rfl) (by omega) (by decide) (b := m0 + 11 + k2) rfl dX4_mix_75 ?_
              refine lv_iload hx hb dX4_mix_76 (lv_at hl 0 rfl) ?_
              refine q_iald hx hb hK (hw.g k2 (by omega)) i (rfl) (by omega) (by decide) dX4_mix_78 ?_
              refine W.eq (g2 := F0 m 79 ls [.int (nI 0), .int (nI i), .ref b1]) rfl ?_
              refine lv_aload_n hx hb dX4_mix_79 rfl (lv_at hl 2 rfl) ?_
              refine q_get (v := .ref (m0 + 10)) hx hb hts hin4 hown hK hw.o rfl 2 (by decide) (hts (.fieldLink RX4 16 "PuddingstoneLineModel" "values" "[[I") (by decide +kernel)) (fun _ h9 => h9) rfl dX4_mix_80 ?_
              refine lv_iload_n hx hb dX4_mix_83 rfl (lv_at hl 5 rfl) ?_
              refine q_aald hx hb hK 5 rfl rfl hw.v k3 (rfl) (by omega) (by decide) (b := m0 + 11 + k3) rfl dX4_mix_84 ?_
              refine lv_iload hx hb dX4_mix_85 (lv_at hl 0 rfl) ?_
              refine q_iald hx hb hK (hw.g k3 (by omega)) i (rfl) (by omega) (by decide) dX4_mix_87 ?_
              refine W.eq (g2 := F0 m 88 ls [.int (nI 0), .int (nI 0), .int (nI i), .ref b1]) rfl ?_
              refine lv_iload hx hb dX4_mix_88 (lv_at hl 6 rfl) ?_
              refine vp_callSi (va_runS (As := [.int (nI 0), .int (nI 0), .int (nI k4)]) (rest := [.int (nI i), .ref b1]) ⟨hx, hb, hml, hown, hts⟩ (conX4_mixed l D T (nI 0) (nI 0) k4 (by omega)) (va_cwS 3 hts gX4_mix_X4_mixed rfl rfl rfl (by decide +kernel) ⟨Nat.le_of_ble_eq_true rfl, Nat.le_of_ble_eq_true rfl⟩) (preS hK trivial) rfl rfl hl.1 rfl (lv_room (Nat.le_of_ble_eq_true rfl)) dX4_mix_90 ⟨Nat.le_of_ble_eq_true rfl, Nat.le_of_ble_eq_true rfl⟩).run (fun r5 hr5 => ?_)
              rw [hr5]
              rw [mixV_0]
              refine vp_callSi (va_runS (As := [.int (nI 0)]) (rest := [.int (nI i), .ref b1]) ⟨hx, hb, hml, hown, hts⟩ (conX4_kept l D T (nI 0)) (va_cwS 1 hts gX4_mix_X4_kept rfl rfl rfl (by decide +kernel) ⟨Nat.le_of_ble_eq_true rfl, Nat.le_of_ble_eq_true rfl⟩) (preS hK trivial) rfl rfl hl.1 rfl (lv_room (Nat.le_of_ble_eq_true rfl)) dX4_mix_93 ⟨Nat.le_of_ble_eq_true rfl, Nat.le_of_ble_eq_true rfl⟩).run (fun r6 hr6 => ?_)
              rw [hr6]
              rw [keptM_0]
              refine q_iast hx hb hK nb1 i (rfl) (by omega) (by decide) hS (hA _ (by omega)) dX4_mix_96 (fun H1 locs1 hw9 hz oq hS => ?_)
              replace hw := hw.ne oq (by omega)
              have nb1 := hw9
              refine lv_iinc (v := nI (i + 1)) (lv' := [(6, .int (nI (i + 1))), (5, .ref b1), (0, .ref m0), (1, .int (nI k1)), (2, .int (nI k2)), (3, .int (nI k3)), (4, .int (nI k4))]) hx hb dX4_mix_97 hl (k := 0) rfl (inc_1 _) (by decide) rfl (fun ls hl => ?_)
              refine lv_goto (tgt := 58) hx hb dX4_mix_100 (by decide) ?_
              have e7 : (eN (T 1) 201 (upd zr0 i (nI 0))) = (eN (T 1) 201 zr0) := by (rw [upd_z])
              exact hnext _ _ _ ⟨hS, lv_sub hl [0, 1, 2, 3, 4, 5, 6] rfl, (by rw [← e7]; exact nb1), hw⟩
          · skip
            intro H locs ls hin9
            obtain ⟨hS, hl, nb1, hw⟩ := hin9
            refine lv_iload hx hb dX4_mix_58 (lv_at hl 0 rfl) ?_
            refine lv_sipush (v := nI 201) hx hb dX4_mix_60 (by decide) ?_
            refine lv_icmp_ge (tgt := 103) hx hb dX4_mix_63 (by decide) (fun c63 => ?_) (fun c63 => ?_)
            · skip
              have c63 : 201 ≤ 201 := (nc_le (a := 201) (b := 201) (by omega) (by omega)).mp c63
              refine lv_aload_n hx hb dX4_mix_103 rfl (lv_at hl 2 rfl) ?_
              refine q_get (v := .ref (m0 + 10)) hx hb hts hin4 hown hK hw.o rfl 2 (by decide) (hts (.fieldLink RX4 16 "PuddingstoneLineModel" "values" "[[I") (by decide +kernel)) (fun _ h9 => h9) rfl dX4_mix_104 ?_
              refine lv_iload_n hx hb dX4_mix_107 rfl (lv_at hl 3 rfl) ?_
              refine lv_aload hx hb dX4_mix_108 (lv_at hl 1 rfl) ?_
              refine q_aasta hx hb hK 5 1 (ty := .int) rfl rfl (hK.2.1.2.2.2) hw.v nb1 k1 (rfl) (by omega) (by decide) (hK.1.2 1 _ rfl).2 hS (hA _ (by omega)) dX4_mix_110 (fun H1 locs1 hw9 hz oq hS => ?_)
              have fo := hw.o.ne oq (by omega)
              have fs := hw9
              replace nb1 := nb1.ne oq (by omega)
              refine lv_aload hx hb dX4_mix_111 (lv_at hl 1 rfl) ?_
              refine vp_callSi (va_runS (As := [.ref b1]) (rest := []) ⟨hx, hb, hml, hown, hts⟩ (conX4_steps l D T b1 zr0) (va_cwS 1 hts gX4_mix_X4_steps rfl rfl rfl (by decide +kernel) ⟨Nat.le_of_ble_eq_true rfl, Nat.le_of_ble_eq_true rfl⟩) (preS hK nb1) rfl rfl hl.1 rfl (lv_room (Nat.le_of_ble_eq_true rfl)) dX4_mix_113 ⟨Nat.le_of_ble_eq_true rfl, Nat.le_of_ble_eq_true rfl⟩).run (fun r8 hr8 => ?_)
              rw [hr8]
              rw [stpM_z]
              have ht9 : tw_mix (nI k1) (nI k2) (nI k3) (nI k4) = nI 0 := by unfold tw_mix; rw [if_neg c9, if_neg c16, if_neg c23, if_neg c39]
              exact W.iret (v := nI 1) hx hb hr (fun t ht _ => ⟨⟨nI 1, (), rfl, by intro _; rfl, by dsimp only; rw [ht]; exact (by rw [ht9]; exact ⟨_, _, fo⟩)⟩, hS.F ht⟩) hS.2.2 dX4_mix_116
            · skip
              have c63 : ¬ (201 ≤ 201) := fun q9 => c63 ((nc_le (a := 201) (b := 201) (by omega) (by omega)).mpr q9)
              omega
        · skip
          refine lv_aload_n hx hb dX4_mix_42 rfl (lv_at hl 0 rfl) ?_
          refine lv_iconst (v := nI 2) hx hb dX4_mix_43 (by decide) ?_
          refine va_calli (va_runV (As := [.int (nI 2)]) (rest := []) ⟨hx, hb, hml, hown, hts⟩ (conX4_no l D T m0 (nI 0) (nI 2) (.ref (m0 + 1)) (.ref (m0 + 10))) (cwV 1 hts gX4_mix_X4_no rfl rfl rfl (by decide +kernel) ⟨Nat.le_of_ble_eq_true rfl, Nat.le_of_ble_eq_true rfl⟩) (preV hK hw.o rfl hw.o) rfl rfl hl.1 rfl (lv_room (Nat.le_of_ble_eq_true rfl)) dX4_mix_44 ⟨Nat.le_of_ble_eq_true rfl, Nat.le_of_ble_eq_true rfl⟩) hS (fun q _ h9 => (hA q (by have h8 : q = m0 := h9; omega))) (fun q h9 => (hA q (by have h8 : q = m0 := h9; omega))) (fun r u t H1 locs1 ht hvm hw9 hB hz1 hk1 hS => ?_)
          try dsimp only at hB
          rw [ht] at hB
          rw [hw9]
          replace hw := hw.setK hB hk1
          have ht9 : tw_mix (nI k1) (nI k2) (nI k3) x4 = nI 2 := by unfold tw_mix; rw [if_neg c9, if_neg c16, if_neg c23, if_pos c39]
          refine W.widen (k := 1) (n := 201) (by first | omega | decide) (by first | omega | decide) ?_
          exact W.iret (v := nI 0) hx hb hr (fun t ht _ => ⟨⟨nI 0, (), rfl, by exact fun h9 => absurd (ht9.symm.trans h9) (by decide), by dsimp only; rw [ht]; exact (by rw [ht9]; exact ⟨_, _, hw.o⟩)⟩, hS.F ht⟩) hS.2.2 dX4_mix_47
      · skip
        refine lv_aload_n hx hb dX4_mix_26 rfl (lv_at hl 0 rfl) ?_
        refine lv_iconst (v := nI 1) hx hb dX4_mix_27 (by decide) ?_
        refine va_calli (va_runV (As := [.int (nI 1)]) (rest := []) ⟨hx, hb, hml, hown, hts⟩ (conX4_no l D T m0 (nI 0) (nI 1) (.ref (m0 + 1)) (.ref (m0 + 10))) (cwV 1 hts gX4_mix_X4_no rfl rfl rfl (by decide +kernel) ⟨Nat.le_of_ble_eq_true rfl, Nat.le_of_ble_eq_true rfl⟩) (preV hK hw.o rfl hw.o) rfl rfl hl.1 rfl (lv_room (Nat.le_of_ble_eq_true rfl)) dX4_mix_28 ⟨Nat.le_of_ble_eq_true rfl, Nat.le_of_ble_eq_true rfl⟩) hS (fun q _ h9 => (hA q (by have h8 : q = m0 := h9; omega))) (fun q h9 => (hA q (by have h8 : q = m0 := h9; omega))) (fun r u t H1 locs1 ht hvm hw9 hB hz1 hk1 hS => ?_)
        try dsimp only at hB
        rw [ht] at hB
        rw [hw9]
        replace hw := hw.setK hB hk1
        have ht9 : tw_mix (nI k1) (nI k2) x3 x4 = nI 1 := by unfold tw_mix; rw [if_neg c9, if_neg c16, if_pos c23]
        refine W.widen (k := 1) (n := 201) (by first | omega | decide) (by first | omega | decide) ?_
        exact W.iret (v := nI 0) hx hb hr (fun t ht _ => ⟨⟨nI 0, (), rfl, by exact fun h9 => absurd (ht9.symm.trans h9) (by decide), by dsimp only; rw [ht]; exact (by rw [ht9]; exact ⟨_, _, hw.o⟩)⟩, hS.F ht⟩) hS.2.2 dX4_mix_31

set_option maxHeartbeats 4000000 in
set_option maxRecDepth 100000 in
theorem conX4_thick (l : Launch) (D : va_G) (T : Nat → ClassId) (sz m0 : Nat) (th x1 x2 : Int32) : Met l yX4_thick wsX4_thick ({ frames := 2, cells := 0, slots := 0, locals := 42 }) (cP D T [.ref m0, .int x1, .int x2] (fun H => H.size = sz ∧ MF D T m0 th H)) (va_Qi (fun (r : Int32) (_ : Unit) => tw_thick x1 x2 = nI 0 → r = nI 1) (fun _ t => MT D m0 (tw_thick x1 x2) t.heap) (MA m0 sz)) 0 0 (MA m0 sz) := by
  refine Met.ofW (cc := cX4_thick) (maxL := 4) (ret := (some .int)) (by decide) rfl ?_
  intro p e s m args below meth c s₁ B hml hv9
  obtain ⟨rfl, hK, hsz, hw⟩ := hv9
  have hx := B.exec
  have hb := B.bytes
  have hr := B.returns
  have hts := atoms_spec (ws := wsX4_thick) B.pre
  have hown : s.vm.findClass RX4 = some m.cls := findClass_of_methodNamed B.named
  have hlocks := B.notSynchronized
  have hin4 : ∀ w ∈ wsX40, w ∈ wsX4_thick := by decide +kernel
  generalize hAe : (MA m0 sz) = A
  have hA : ∀ q : Nat, ((m0 ≤ q ∧ q < m0 + 16) ∨ s.heap.size ≤ q) → A q := fun q h9 => by subst hAe; show (m0 ≤ q ∧ q < m0 + 16) ∨ sz ≤ q; omega
  have hS : va_S A s.heap s.heap [] := va_S.rf
  have hl := lv_entry ([.ref m0, .int x1, .int x2]) (n := 4) (Nat.le_of_ble_eq_true rfl)
  rw [lg_entry_eq]
  generalize (lg_sl ([.ref m0, .int x1, .int x2]) ++ List.replicate (4 - (lg_sl ([.ref m0, .int x1, .int x2])).length) Slot.unset).toArray = ls at hl ⊢
  have hl : lv_has ls 4 [(0, .ref m0), (1, .int x1), (2, .int x2)] := hl
  refine lv_aload_n hx hb dX4_thick_0 rfl (lv_at hl 0 rfl) ?_
  refine lv_iconst (v := nI 0) hx hb dX4_thick_1 (by decide) ?_
  refine q_put (v := .int (nI 0)) hx hb hts hin4 tyX4 tyX4_ok nmX4 hown hK hw.o rfl 0 (by decide) (hts (.fieldLink RX4 19 "PuddingstoneLineModel" "thrown" "I") (by decide +kernel)) (fun _ h9 => h9) rfl rfl rfl (Nat.le_of_ble_eq_true rfl) hS (hA _ (by omega)) dX4_thick_2 (fun H1 locs1 hw9 oq hS => ?_)
  replace hw := hw.setO hw9 oq
  refine lv_iload_n hx hb dX4_thick_5 rfl (lv_at hl 1 rfl) ?_
  refine vp_callSi (va_runS (As := [.int x1]) (rest := []) ⟨hx, hb, hml, hown, hts⟩ (conX4_isFunction l D T x1) (va_cwS 1 hts gX4_thick_X4_isFunction rfl rfl rfl (by decide +kernel) ⟨Nat.le_of_ble_eq_true rfl, Nat.le_of_ble_eq_true rfl⟩) (preS hK trivial) rfl rfl hl.1 rfl (lv_room (Nat.le_of_ble_eq_true rfl)) dX4_thick_6 ⟨Nat.le_of_ble_eq_true rfl, Nat.le_of_ble_eq_true rfl⟩).run (fun r1 hr1 => ?_)
  rw [hr1]
  refine lv_if_ne (tgt := 18) hx hb dX4_thick_9 (by decide) (fun c9 => ?_) (fun c9 => ?_)
  · skip
    obtain ⟨k1, hk1, rfl⟩ := inM_ok (n := 4) (by decide) c9
    refine lv_iload_n hx hb dX4_thick_18 rfl (lv_at hl 2 rfl) ?_
    refine lv_iconst (v := nI 0) hx hb dX4_thick_19 (by decide) ?_
    refine lv_sipush (v := nI 255) hx hb dX4_thick_20 (by decide) ?_
    refine vp_callSi (va_runS (As := [.int x2, .int (nI 0), .int (nI 255)]) (rest := []) ⟨hx, hb, hml, hown, hts⟩ (conX4_isIn l D T x2 (nI 0) (nI 255)) (va_cwS 3 hts gX4_thick_X4_isIn rfl rfl rfl (by decide +kernel) ⟨Nat.le_of_ble_eq_true rfl, Nat.le_of_ble_eq_true rfl⟩) (preS hK trivial) rfl rfl hl.1 rfl (lv_room (Nat.le_of_ble_eq_true rfl)) dX4_thick_23 ⟨Nat.le_of_ble_eq_true rfl, Nat.le_of_ble_eq_true rfl⟩).run (fun r2 hr2 => ?_)
    rw [hr2]
    refine lv_if_ne (tgt := 35) hx hb dX4_thick_26 (by decide) (fun c26 => ?_) (fun c26 => ?_)
    · skip
      obtain ⟨k2, hk2, rfl⟩ := inM_ok (n := 255) (by decide) c26
      refine lv_iconst (v := nI 0) hx hb dX4_thick_35 (by decide) ?_
      refine lv_istore_n (lv' := [(3, .int (nI 0)), (0, .ref m0), (1, .int (nI k1)), (2, .int (nI k2))]) hx hb dX4_thick_36 rfl hl (by decide) rfl (fun ls hl => ?_)
      refine q_for (fun (i : Nat) (H : Heap) (locs : List Loc) (ls : Array Slot) => va_S A s.heap H locs ∧ lv_has ls 4 [(3, .int (nI i)), (0, .ref m0), (1, .int (nI k1)), (2, .int (nI k2))] ∧ MF D T m0 (nI 0) H) (N := 201) 0 (by omega) ?_ ?_ ?_
      · skip
        exact ⟨hS, lv_sub hl [0, 1, 2, 3] rfl, hw⟩
      · skip
        intro i H locs ls hi9 hin9 hnext
        obtain ⟨hS, hl, hw⟩ := hin9
        refine lv_iload_n hx hb dX4_thick_37 rfl (lv_at hl 0 rfl) ?_
        refine lv_sipush (v := nI 201) hx hb dX4_thick_38 (by decide) ?_
        refine lv_icmp_ge (tgt := 64) hx hb dX4_thick_41 (by decide) (fun c41 => ?_) (fun c41 => ?_)
        · skip
          have c41 : 201 ≤ i := (nc_le (a := 201) (b := i) (by omega) (by omega)).mp c41
          omega
        · skip
          have c41 : ¬ (201 ≤ i) := fun q9 => c41 ((nc_le (a := 201) (b := i) (by omega) (by omega)).mpr q9)
          refine lv_aload_n hx hb dX4_thick_44 rfl (lv_at hl 1 rfl) ?_
          refine q_get (v := .ref (m0 + 10)) hx hb hts hin4 hown hK hw.o rfl 2 (by decide) (hts (.fieldLink RX4 16 "PuddingstoneLineModel" "values" "[[I") (by decide +kernel)) (fun _ h9 => h9) rfl dX4_thick_45 ?_
          refine lv_iload_n hx hb dX4_thick_48 rfl (lv_at hl 2 rfl) ?_
          refine q_aald hx hb hK 5 rfl rfl hw.v k1 (rfl) (by omega) (by decide) (b := m0 + 11 + k1) rfl dX4_thick_49 ?_
          refine lv_iload_n hx hb dX4_thick_50 rfl (lv_at hl 0 rfl) ?_
          refine lv_aload_n hx hb dX4_thick_51 rfl (lv_at hl 1 rfl) ?_
          refine lv_iload_n hx hb dX4_thick_52 rfl (lv_at hl 3 rfl) ?_
          refine lv_iload_n hx hb dX4_thick_53 rfl (lv_at hl 0 rfl) ?_
          refine vp_callSi (va_runV (As := [.int (nI k2), .int (nI i)]) (rest := [.int (nI i), .ref (m0 + 11 + k1)]) ⟨hx, hb, hml, hown, hts⟩ (conX4_thickness l D T m0 (nI 0) (nI k2) i (by omega)) (cwV 2 hts gX4_thick_X4_thickness rfl rfl rfl (by decide +kernel) ⟨Nat.le_of_ble_eq_true rfl, Nat.le_of_ble_eq_true rfl⟩) (preV hK hw.o rfl hw) rfl rfl hl.1 rfl (lv_room (Nat.le_of_ble_eq_true rfl)) dX4_thick_54 ⟨Nat.le_of_ble_eq_true rfl, Nat.le_of_ble_eq_true rfl⟩).run (fun r3 hr3 => ?_)
          rw [hr3]
          refine q_iast hx hb hK (hw.g k1 (by omega)) i (rfl) (by omega) (by decide) hS (hA _ (by omega)) dX4_thick_57 (fun H1 locs1 hw9 hz oq hS => ?_)
          have hr9 := hw9
          rw [upd_z] at hr9
          replace hw := hw.zG k1 (by omega) hr9 oq
          refine lv_iinc (v := nI (i + 1)) (lv' := [(3, .int (nI (i + 1))), (0, .ref m0), (1, .int (nI k1)), (2, .int (nI k2))]) hx hb dX4_thick_58 hl (k := 0) rfl (inc_1 _) (by decide) rfl (fun ls hl => ?_)
          refine lv_goto (tgt := 37) hx hb dX4_thick_61 (by decide) ?_
          exact hnext _ _ _ ⟨hS, lv_sub hl [0, 1, 2, 3] rfl, hw⟩
      · skip
        intro H locs ls hin9
        obtain ⟨hS, hl, hw⟩ := hin9
        refine lv_iload_n hx hb dX4_thick_37 rfl (lv_at hl 0 rfl) ?_
        refine lv_sipush (v := nI 201) hx hb dX4_thick_38 (by decide) ?_
        refine lv_icmp_ge (tgt := 64) hx hb dX4_thick_41 (by decide) (fun c41 => ?_) (fun c41 => ?_)
        · skip
          have c41 : 201 ≤ 201 := (nc_le (a := 201) (b := 201) (by omega) (by omega)).mp c41
          refine lv_aload_n hx hb dX4_thick_64 rfl (lv_at hl 1 rfl) ?_
          refine q_get (v := .ref (m0 + 10)) hx hb hts hin4 hown hK hw.o rfl 2 (by decide) (hts (.fieldLink RX4 16 "PuddingstoneLineModel" "values" "[[I") (by decide +kernel)) (fun _ h9 => h9) rfl dX4_thick_65 ?_
          refine lv_iload_n hx hb dX4_thick_68 rfl (lv_at hl 2 rfl) ?_
          refine q_aald hx hb hK 5 rfl rfl hw.v k1 (rfl) (by omega) (by decide) (b := m0 + 11 + k1) rfl dX4_thick_69 ?_
          refine vp_callSi (va_runS (As := [.ref (m0 + 11 + k1)]) (rest := []) ⟨hx, hb, hml, hown, hts⟩ (conX4_steps l D T (m0 + 11 + k1) zr0) (va_cwS 1 hts gX4_thick_X4_steps rfl rfl rfl (by decide +kernel) ⟨Nat.le_of_ble_eq_true rfl, Nat.le_of_ble_eq_true rfl⟩) (preS hK ((hw.g k1 (by omega)))) rfl rfl hl.1 rfl (lv_room (Nat.le_of_ble_eq_true rfl)) dX4_thick_70 ⟨Nat.le_of_ble_eq_true rfl, Nat.le_of_ble_eq_true rfl⟩).run (fun r4 hr4 => ?_)
          rw [hr4]
          rw [stpM_z]
          have ht9 : tw_thick (nI k1) (nI k2) = nI 0 := by unfold tw_thick; rw [if_neg c9, if_neg c26]
          exact W.iret (v := nI 1) hx hb hr (fun t ht _ => ⟨⟨nI 1, (), rfl, by intro _; rfl, by dsimp only; rw [ht]; exact (by rw [ht9]; exact ⟨_, _, hw.o⟩)⟩, hS.F ht⟩) hS.2.2 dX4_thick_73
        · skip
          have c41 : ¬ (201 ≤ 201) := fun q9 => c41 ((nc_le (a := 201) (b := 201) (by omega) (by omega)).mpr q9)
          omega
    · skip
      refine lv_aload_n hx hb dX4_thick_29 rfl (lv_at hl 0 rfl) ?_
      refine lv_iconst (v := nI 2) hx hb dX4_thick_30 (by decide) ?_
      refine va_calli (va_runV (As := [.int (nI 2)]) (rest := []) ⟨hx, hb, hml, hown, hts⟩ (conX4_no l D T m0 (nI 0) (nI 2) (.ref (m0 + 1)) (.ref (m0 + 10))) (cwV 1 hts gX4_thick_X4_no rfl rfl rfl (by decide +kernel) ⟨Nat.le_of_ble_eq_true rfl, Nat.le_of_ble_eq_true rfl⟩) (preV hK hw.o rfl hw.o) rfl rfl hl.1 rfl (lv_room (Nat.le_of_ble_eq_true rfl)) dX4_thick_31 ⟨Nat.le_of_ble_eq_true rfl, Nat.le_of_ble_eq_true rfl⟩) hS (fun q _ h9 => (hA q (by have h8 : q = m0 := h9; omega))) (fun q h9 => (hA q (by have h8 : q = m0 := h9; omega))) (fun r u t H1 locs1 ht hvm hw9 hB hz1 hk1 hS => ?_)
      try dsimp only at hB
      rw [ht] at hB
      rw [hw9]
      replace hw := hw.setK hB hk1
      have ht9 : tw_thick (nI k1) x2 = nI 2 := by unfold tw_thick; rw [if_neg c9, if_pos c26]
      exact W.iret (v := nI 0) hx hb hr (fun t ht _ => ⟨⟨nI 0, (), rfl, by exact fun h9 => absurd (ht9.symm.trans h9) (by decide), by dsimp only; rw [ht]; exact (by rw [ht9]; exact ⟨_, _, hw.o⟩)⟩, hS.F ht⟩) hS.2.2 dX4_thick_34
  · skip
    refine lv_aload_n hx hb dX4_thick_12 rfl (lv_at hl 0 rfl) ?_
    refine lv_iconst (v := nI 1) hx hb dX4_thick_13 (by decide) ?_
    refine va_calli (va_runV (As := [.int (nI 1)]) (rest := []) ⟨hx, hb, hml, hown, hts⟩ (conX4_no l D T m0 (nI 0) (nI 1) (.ref (m0 + 1)) (.ref (m0 + 10))) (cwV 1 hts gX4_thick_X4_no rfl rfl rfl (by decide +kernel) ⟨Nat.le_of_ble_eq_true rfl, Nat.le_of_ble_eq_true rfl⟩) (preV hK hw.o rfl hw.o) rfl rfl hl.1 rfl (lv_room (Nat.le_of_ble_eq_true rfl)) dX4_thick_14 ⟨Nat.le_of_ble_eq_true rfl, Nat.le_of_ble_eq_true rfl⟩) hS (fun q _ h9 => (hA q (by have h8 : q = m0 := h9; omega))) (fun q h9 => (hA q (by have h8 : q = m0 := h9; omega))) (fun r u t H1 locs1 ht hvm hw9 hB hz1 hk1 hS => ?_)
    try dsimp only at hB
    rw [ht] at hB
    rw [hw9]
    replace hw := hw.setK hB hk1
    have ht9 : tw_thick x1 x2 = nI 1 := by unfold tw_thick; rw [if_pos c9]
    exact W.iret (v := nI 0) hx hb hr (fun t ht _ => ⟨⟨nI 0, (), rfl, by exact fun h9 => absurd (ht9.symm.trans h9) (by decide), by dsimp only; rw [ht]; exact (by rw [ht9]; exact ⟨_, _, hw.o⟩)⟩, hS.F ht⟩) hS.2.2 dX4_thick_17
