/-! THE MODEL'S PUBLIC METHODS ON A FRESH OBJECT: what they throw (tw_..) and answer -/
theorem win_n {g a b e : Nat} (h : winM g a b e = 0) : ¬ (fgN a b e ≤ g ∧ g < lgN a b e) := by
  intro q
  unfold winM at h
  rw [if_pos q] at h
  exact absurd h (by decide)
theorem win_y {g a b e : Nat} (h : ¬ winM g a b e = 0) : fgN a b e ≤ g ∧ g < lgN a b e := by
  by_cases q : fgN a b e ≤ g ∧ g < lgN a b e
  · exact q
  · exact absurd (if_neg q) h
def spC (v : Int32) (a b e i : Nat) : Int32 := if v = 0 then nI 0 else nI (min i (lgN a b e) - fgN a b e)
def spR (v : Int32) (a b e i : Nat) : Nat → Int32 := fun j => if j < i ∧ fgN a b e ≤ j ∧ j < lgN a b e then v else nI 0
def spV (x y z v : Int32) : Int32 := if v = 0 then nI 0 else nI (lgN x.toNatClampNeg y.toNatClampNeg z.toNatClampNeg - fgN x.toNatClampNeg y.toNatClampNeg z.toNatClampNeg)
theorem spC_0 (v : Int32) (a b e : Nat) : spC v a b e 0 = nI 0 := by
  unfold spC
  split
  · rfl
  · rw [Nat.zero_min, Nat.zero_sub]
theorem spR_0 (v : Int32) (a b e : Nat) : spR v a b e 0 = zr0 := by
  funext j
  simp [spR, zr0]
theorem spR_i (v : Int32) (a b e i : Nat) : spR v a b e i i = nI 0 := by
  unfold spR
  exact if_neg (by omega)
theorem spC_a {v : Int32} {a b e i : Nat} (h : winM i a b e = 0) : spC v a b e (i + 1) = spC v a b e i := by
  have := win_n h
  unfold spC
  split
  · rfl
  · rw [show min (i + 1) (lgN a b e) - fgN a b e = min i (lgN a b e) - fgN a b e by omega]
theorem spR_a {v : Int32} {a b e i : Nat} (h : winM i a b e = 0) : spR v a b e i = spR v a b e (i + 1) := by
  have := win_n h
  funext j
  unfold spR
  exact ite_iff (by omega)
theorem spv0 {v : Int32} {a b e i : Nat} (h : spR v a b e i i = v) : v = 0 := by
  rw [spR_i] at h
  exact h.symm
theorem spC_b {v : Int32} {a b e i : Nat} (_ : ¬ winM i a b e = 0) (h : spR v a b e i i = v) : spC v a b e (i + 1) = spC v a b e i := by
  unfold spC
  rw [if_pos (spv0 h), if_pos (spv0 h)]
theorem spR_z {v : Int32} {a b e i : Nat} (h : v = 0) : spR v a b e i = zr0 := by
  subst h
  funext j
  unfold spR
  split <;> rfl
theorem spR_b {v : Int32} {a b e i : Nat} (_ : ¬ winM i a b e = 0) (h : spR v a b e i i = v) : spR v a b e i = spR v a b e (i + 1) := by rw [spR_z (spv0 h), spR_z (spv0 h)]
theorem spC_c {v : Int32} {a b e i : Nat} (h : ¬ winM i a b e = 0) (h2 : ¬ spR v a b e i i = v) : spC v a b e (i + 1) = spC v a b e i + 1 := by
  have hw := win_y h
  have hv : ¬ v = 0 := fun q => h2 (by rw [spR_i, q]; rfl)
  unfold spC
  rw [if_neg hv, if_neg hv, show min (i + 1) (lgN a b e) - fgN a b e = min i (lgN a b e) - fgN a b e + 1 by omega]
  exact (nI_1 _).symm
theorem spR_c {v : Int32} {a b e i : Nat} (h : ¬ winM i a b e = 0) : upd (spR v a b e i) i v = spR v a b e (i + 1) := by
  have hw := win_y h
  funext j
  by_cases hj : j = i
  · subst hj
    have h1 : upd (spR v a b e j) j v j = v := pk_us
    rw [h1]
    unfold spR
    rw [if_pos ⟨by omega, hw⟩]
  · have h1 : upd (spR v a b e i) i v j = spR v a b e i j := pk_un hj
    rw [h1]
    unfold spR
    exact ite_iff (by omega)
theorem spV_e {v : Int32} {a b e : Nat} (hab : a ≤ b) (hb : b ≤ 100) (he : e ≤ 3) : spC v a b e 201 = spV (nI a) (nI b) (nI e) v := by
  unfold spC spV
  rw [nI_clamp (show a < 2 ^ 31 by omega), nI_clamp (show b < 2 ^ 31 by omega), nI_clamp (show e < 2 ^ 31 by omega)]
  have h1 := lgN_le (a := a) (e := e) hb
  rw [show min 201 (lgN a b e) = lgN a b e by omega]
def raR (x : Int32) (a b e i : Nat) : Nat → Int32 := fun j => if j < i ∧ fgN a b e ≤ j ∧ j < lgN a b e then keptM (nI 0 + x) else nI 0
def raV (x y z v : Int32) : Int32 := stpM (raR v x.toNatClampNeg y.toNatClampNeg z.toNatClampNeg 201) 200
theorem raR_0 (v : Int32) (a b e : Nat) : raR v a b e 0 = zr0 := by
  funext j
  simp [raR, zr0]
theorem raR_i (v : Int32) (a b e i : Nat) : raR v a b e i i = nI 0 := by
  unfold raR
  exact if_neg (by omega)
theorem raR_a {v : Int32} {a b e i : Nat} (h : winM i a b e = 0) : raR v a b e i = raR v a b e (i + 1) := by
  have := win_n h
  funext j
  unfold raR
  exact ite_iff (by omega)
theorem raR_c {v : Int32} {a b e i : Nat} (h : ¬ winM i a b e = 0) : upd (raR v a b e i) i (keptM (raR v a b e i i + v)) = raR v a b e (i + 1) := by
  have hw := win_y h
  rw [raR_i]
  funext j
  by_cases hj : j = i
  · subst hj
    rw [pk_us]
    unfold raR
    rw [if_pos ⟨by omega, hw⟩]
  · rw [pk_un hj]
    unfold raR
    exact ite_iff (by omega)
theorem raV_e {v : Int32} {a b e : Nat} (ha : a < 2 ^ 31) (hb : b < 2 ^ 31) (he : e < 2 ^ 31) : stpM (raR v a b e 201) 200 = raV (nI a) (nI b) (nI e) v := by
  unfold raV
  rw [nI_clamp ha, nI_clamp hb, nI_clamp he]
def tw_turn (x1 x2 x3 : Int32) : Int32 := if inM x1 (nI 0) (nI 4) = 0 then nI 1 else if inM x2 (nI 0) (nI 6) = 0 then nI 2 else if nI 4 < x2 ∧ inM x3 (nI 0) (nI 200) = 0 then nI 2 else nI 0
def tw_where (x1 x2 x3 x4 : Int32) : Int32 := if inM x1 (nI 0) (nI 7) = 0 then nI 1 else if inM x2 (nI 0) (nI 4) = 0 then nI 1 else nI 0
def tw_span (x1 x2 x3 x4 x5 : Int32) : Int32 := if inM x1 (nI 0) (nI 7) = 0 then nI 1 else if spanM x2 x3 x4 = 0 then nI 2 else nI 0
def tw_raise (x1 x2 x3 x4 x5 : Int32) : Int32 := if inM x1 (nI 0) (nI 4) = 0 then nI 1 else if spanM x2 x3 x4 = 0 then nI 2 else if inM x5 (-1000) (nI 1000) = 0 then nI 2 else nI 0
set_option maxHeartbeats 4000000 in
set_option maxRecDepth 100000 in
theorem conX4_turn (l : Launch) (D : va_G) (T : Nat → ClassId) (sz m0 : Nat) (th x1 x2 x3 : Int32) : Met l yX4_turn wsX4_turn ({ frames := 3, cells := 2, slots := 402, locals := 57 }) (cP D T [.ref m0, .int x1, .int x2, .int x3] (fun H => H.size = sz ∧ MF D T m0 th H)) (va_Qi (fun (r : Int32) (_ : Unit) => tw_turn x1 x2 x3 = nI 0 → r = nI 1) (fun _ t => MT D m0 (tw_turn x1 x2 x3) t.heap) (MA m0 sz)) 2 402 (MA m0 sz) := by
  refine Met.ofW (cc := cX4_turn) (maxL := 8) (ret := (some .int)) (by decide) rfl ?_
  intro p e s m args below meth c s₁ B hml hv9
  obtain ⟨rfl, hK, hsz, hw⟩ := hv9
  have hx := B.exec
  have hb := B.bytes
  have hr := B.returns
  have hts := atoms_spec (ws := wsX4_turn) B.pre
  have hown : s.vm.findClass RX4 = some m.cls := findClass_of_methodNamed B.named
  have hlocks := B.notSynchronized
  have hin4 : ∀ w ∈ wsX40, w ∈ wsX4_turn := by decide +kernel
  generalize hAe : (MA m0 sz) = A
  have hA : ∀ q : Nat, ((m0 ≤ q ∧ q < m0 + 16) ∨ s.heap.size ≤ q) → A q := fun q h9 => by subst hAe; show (m0 ≤ q ∧ q < m0 + 16) ∨ sz ≤ q; omega
  have hS : va_S A s.heap s.heap [] := va_S.rf
  have hl := lv_entry ([.ref m0, .int x1, .int x2, .int x3]) (n := 8) (Nat.le_of_ble_eq_true rfl)
  rw [lg_entry_eq]
  generalize (lg_sl ([.ref m0, .int x1, .int x2, .int x3]) ++ List.replicate (8 - (lg_sl ([.ref m0, .int x1, .int x2, .int x3])).length) Slot.unset).toArray = ls at hl ⊢
  have hl : lv_has ls 8 [(0, .ref m0), (1, .int x1), (2, .int x2), (3, .int x3)] := hl
  refine lv_aload_n hx hb dX4_turn_0 rfl (lv_at hl 0 rfl) ?_
  refine lv_iconst (v := nI 0) hx hb dX4_turn_1 (by decide) ?_
  refine q_put (v := .int (nI 0)) hx hb hts hin4 tyX4 tyX4_ok nmX4 hown hK hw.o rfl 0 (by decide) (hts (.fieldLink RX4 19 "PuddingstoneLineModel" "thrown" "I") (by decide +kernel)) (fun _ h9 => h9) rfl rfl rfl (Nat.le_of_ble_eq_true rfl) hS (hA _ (by omega)) dX4_turn_2 (fun H1 locs1 hw9 oq hS => ?_)
  replace hw := hw.setO hw9 oq
  refine lv_iload_n hx hb dX4_turn_5 rfl (lv_at hl 1 rfl) ?_
  refine vp_callSi (va_runS (As := [.int x1]) (rest := []) ⟨hx, hb, hml, hown, hts⟩ (conX4_isFunction l D T x1) (va_cwS 1 hts gX4_turn_X4_isFunction rfl rfl rfl (by decide +kernel) ⟨Nat.le_of_ble_eq_true rfl, Nat.le_of_ble_eq_true rfl⟩) (preS hK trivial) rfl rfl hl.1 rfl (lv_room (Nat.le_of_ble_eq_true rfl)) dX4_turn_6 ⟨Nat.le_of_ble_eq_true rfl, Nat.le_of_ble_eq_true rfl⟩).run (fun r1 hr1 => ?_)
  rw [hr1]
  refine lv_if_ne (tgt := 18) hx hb dX4_turn_9 (by decide) (fun c9 => ?_) (fun c9 => ?_)
  · skip
    obtain ⟨k1, hk1, rfl⟩ := inM_ok (n := 4) (by decide) c9
    refine lv_iload_n hx hb dX4_turn_18 rfl (lv_at hl 2 rfl) ?_
    refine lv_iconst (v := nI 0) hx hb dX4_turn_19 (by decide) ?_
    refine lv_bipush (v := nI 6) hx hb dX4_turn_20 (by decide) ?_
    refine vp_callSi (va_runS (As := [.int x2, .int (nI 0), .int (nI 6)]) (rest := []) ⟨hx, hb, hml, hown, hts⟩ (conX4_isIn l D T x2 (nI 0) (nI 6)) (va_cwS 3 hts gX4_turn_X4_isIn rfl rfl rfl (by decide +kernel) ⟨Nat.le_of_ble_eq_true rfl, Nat.le_of_ble_eq_true rfl⟩) (preS hK trivial) rfl rfl hl.1 rfl (lv_room (Nat.le_of_ble_eq_true rfl)) dX4_turn_22 ⟨Nat.le_of_ble_eq_true rfl, Nat.le_of_ble_eq_true rfl⟩).run (fun r2 hr2 => ?_)
    rw [hr2]
    refine lv_if_eq (tgt := 44) hx hb dX4_turn_25 (by decide) (fun c25 => ?_) (fun c25 => ?_)
    · skip
      refine lv_aload_n hx hb dX4_turn_44 rfl (lv_at hl 0 rfl) ?_
      refine lv_iconst (v := nI 2) hx hb dX4_turn_45 (by decide) ?_
      refine va_calli (va_runV (As := [.int (nI 2)]) (rest := []) ⟨hx, hb, hml, hown, hts⟩ (conX4_no l D T m0 (nI 0) (nI 2) (.ref (m0 + 1)) (.ref (m0 + 10))) (cwV 1 hts gX4_turn_X4_no rfl rfl rfl (by decide +kernel) ⟨Nat.le_of_ble_eq_true rfl, Nat.le_of_ble_eq_true rfl⟩) (preV hK hw.o rfl hw.o) rfl rfl hl.1 rfl (lv_room (Nat.le_of_ble_eq_true rfl)) dX4_turn_46 ⟨Nat.le_of_ble_eq_true rfl, Nat.le_of_ble_eq_true rfl⟩) hS (fun q _ h9 => (hA q (by have h8 : q = m0 := h9; omega))) (fun q h9 => (hA q (by have h8 : q = m0 := h9; omega))) (fun r u t H1 locs1 ht hvm hw9 hB hz1 hk1 hS => ?_)
      try dsimp only at hB
      rw [ht] at hB
      rw [hw9]
      replace hw := hw.setK hB hk1
      have ht9 : tw_turn (nI k1) x2 x3 = nI 2 := by unfold tw_turn; rw [if_neg c9, if_pos c25]
      refine W.widen (k := 2) (n := 402) (by first | omega | decide) (by first | omega | decide) ?_
      exact W.iret (v := nI 0) hx hb hr (fun t ht _ => ⟨⟨nI 0, (), rfl, by exact fun h9 => absurd (ht9.symm.trans h9) (by decide), by dsimp only; rw [ht]; exact (by rw [ht9]; exact ⟨_, _, hw.o⟩)⟩, hS.F ht⟩) hS.2.2 dX4_turn_49
    · skip
      obtain ⟨k2, hk2, rfl⟩ := inM_ok (n := 6) (by decide) c25
      refine lv_iload_n hx hb dX4_turn_28 rfl (lv_at hl 2 rfl) ?_
      refine lv_iconst (v := nI 4) hx hb dX4_turn_29 (by decide) ?_
      refine lv_icmp_le (tgt := 50) hx hb dX4_turn_30 (by decide) (fun c30 => ?_) (fun c30 => ?_)
      · skip
        have c30 : k2 ≤ 4 := (nc_le (a := k2) (b := 4) (by omega) (by omega)).mp c30
        refine lv_aload_n hx hb dX4_turn_50 rfl (lv_at hl 0 rfl) ?_
        refine q_get (v := .ref (m0 + 10)) hx hb hts hin4 hown hK hw.o rfl 2 (by decide) (hts (.fieldLink RX4 16 "PuddingstoneLineModel" "values" "[[I") (by decide +kernel)) (fun _ h9 => h9) rfl dX4_turn_51 ?_
        refine lv_iload_n hx hb dX4_turn_54 rfl (lv_at hl 1 rfl) ?_
        refine q_aald hx hb hK 5 rfl rfl hw.v k1 (rfl) (by omega) (by decide) (b := m0 + 11 + k1) rfl dX4_turn_55 ?_
        refine lv_astore (lv' := [(4, .ref (m0 + 11 + k1)), (0, .ref m0), (1, .int (nI k1)), (2, .int (nI k2)), (3, .int x3)]) hx hb dX4_turn_56 hl (by decide) rfl (fun ls hl => ?_)
        refine lv_aload hx hb dX4_turn_58 (lv_at hl 0 rfl) ?_
        obtain ⟨b1, hb1⟩ : ∃ z : Nat, z = H1.size := ⟨_, rfl⟩
        have lw_b1 : m0 + 16 ≤ b1 := by have h8 := hw.lt; omega
        have ln_b1 : s.heap.size ≤ b1 := by have h8 := hS.1; omega
        refine va_callr (va_runS (As := [.ref (m0 + 11 + k1)]) (rest := []) ⟨hx, hb, hml, hown, hts⟩ (conX4_negated l D T b1 (m0 + 11 + k1)) (va_cwS 1 hts gX4_turn_X4_negated rfl rfl rfl (by decide +kernel) ⟨Nat.le_of_ble_eq_true rfl, Nat.le_of_ble_eq_true rfl⟩) (preS hK ⟨hb1.symm, (hw.g k1 (by omega))⟩) rfl rfl hl.1 rfl (lv_room (Nat.le_of_ble_eq_true rfl)) dX4_turn_60 ⟨Nat.le_of_ble_eq_true rfl, Nat.le_of_ble_eq_true rfl⟩) hS (fun q _ h9 => (hA q (by have h8 : b1 ≤ q := h9; omega))) (fun q h9 => (hA q (by have h8 : b1 ≤ q := h9; omega))) (fun u ra t H1 locs1 ht hvm hw9 hB hz1 hk1 hS => ?_)
        try dsimp only at hB
        rw [ht] at hB
        obtain ⟨a3, rfl⟩ : ∃ z, z = ra := ⟨_, rfl⟩
        obtain ⟨hz_a3, na3⟩ := hB
        replace hw := hw.kept hk1 (fun q h7 h8 (h9 : b1 ≤ q) => by omega)
        refine lv_astore (lv' := [(5, .ref a3), (4, .ref (m0 + 11 + k1)), (0, .ref m0), (1, .int (nI k1)), (2, .int (nI k2)), (3, .int x3)]) hx hb dX4_turn_63 hl (by decide) rfl (fun ls hl => ?_)
        refine lv_sipush (v := nI 201) hx hb dX4_turn_65 (by decide) ?_
        obtain ⟨b2, hb2⟩ : ∃ z : Nat, z = H1.size := ⟨_, rfl⟩
        have lna3_b2 : a3 < b2 := by have h8 := na3.lt; omega
        have lw_b2 : m0 + 16 ≤ b2 := by have h8 := hw.lt; omega
        have ln_b2 : s.heap.size ≤ b2 := by have h8 := hS.1; omega
        refine q_newi hx hb (hts (.arrayClass .int) (by decide +kernel)) hK 201 rfl (by decide) (Nat.le_of_ble_eq_true rfl) (Nat.le_of_ble_eq_true rfl) hS dX4_turn_68 (fun H1 hw9 z1 o1 hS => ?_)
        rw [← hb2] at hw9 ⊢
        replace na3 := na3.old o1
        replace hw := hw.old o1
        have nb2 := hw9
        have sb2 : H1.size = b2 + 1 := by omega
        refine lv_astore (lv' := [(6, .ref b2), (5, .ref a3), (4, .ref (m0 + 11 + k1)), (0, .ref m0), (1, .int (nI k1)), (2, .int (nI k2)), (3, .int x3)]) hx hb dX4_turn_70 hl (by decide) rfl (fun ls hl => ?_)
        refine lv_iconst (v := nI 0) hx hb dX4_turn_72 (by decide) ?_
        refine lv_istore (lv' := [(7, .int (nI 0)), (6, .ref b2), (5, .ref a3), (4, .ref (m0 + 11 + k1)), (0, .ref m0), (1, .int (nI k1)), (2, .int (nI k2)), (3, .int x3)]) hx hb dX4_turn_73 hl (by decide) rfl (fun ls hl => ?_)
        refine q_for (fun (i : Nat) (H : Heap) (locs : List Loc) (ls : Array Slot) => va_S A s.heap H locs ∧ lv_has ls 8 [(7, .int (nI i)), (6, .ref b2), (5, .ref a3), (4, .ref (m0 + 11 + k1)), (0, .ref m0), (1, .int (nI k1)), (2, .int (nI k2)), (3, .int x3)] ∧ pAt D H a3 (eN (T 1) 201 zr0) ∧ pAt D H b2 (eN (T 1) 201 zr0) ∧ MF D T m0 (nI 0) H) (N := 201) 0 (by omega) ?_ ?_ ?_
        · skip
          exact ⟨hS, lv_sub hl [0, 1, 2, 3, 4, 5, 6, 7] rfl, na3, nb2, hw⟩
        · skip
          intro i H locs ls hi9 hin9 hnext
          obtain ⟨hS, hl, na3, nb2, hw⟩ := hin9
          refine lv_iload hx hb dX4_turn_75 (lv_at hl 0 rfl) ?_
          refine lv_sipush (v := nI 201) hx hb dX4_turn_77 (by decide) ?_
          refine lv_icmp_ge (tgt := 249) hx hb dX4_turn_80 (by decide) (fun c80 => ?_) (fun c80 => ?_)
          · skip
            have c80 : 201 ≤ i := (nc_le (a := 201) (b := i) (by omega) (by omega)).mp c80
            omega
          · skip
            have c80 : ¬ (201 ≤ i) := fun q9 => c80 ((nc_le (a := 201) (b := i) (by omega) (by omega)).mpr q9)
            refine lv_iload_n hx hb dX4_turn_83 rfl (lv_at hl 6 rfl) ?_
            by_cases e84_0 : k2 = 0
            · skip
              refine lv_tableIn (off := 40) (tgt := 124) hx hb dX4_turn_84 (by rw [e84_0]; decide) (by rw [e84_0]; decide) (by rw [e84_0]; rfl) (by decide) ?_
              refine lv_aload hx hb dX4_turn_124 (lv_at hl 1 rfl) ?_
              refine lv_iload hx hb dX4_turn_126 (lv_at hl 0 rfl) ?_
              refine lv_aload hx hb dX4_turn_128 (lv_at hl 2 rfl) ?_
              refine lv_iload hx hb dX4_turn_130 (lv_at hl 0 rfl) ?_
              refine q_iald hx hb hK na3 i (rfl) (by omega) (by decide) dX4_turn_132 ?_
              refine W.eq (g2 := F0 m 133 ls [.int (nI 0), .int (nI i), .ref b2]) rfl ?_
              refine q_iast hx hb hK nb2 i (rfl) (by omega) (by decide) hS (hA _ (by omega)) dX4_turn_133 (fun H1 locs1 hw9 hz oq hS => ?_)
              replace hw := hw.ne oq (by omega)
              replace na3 := na3.ne oq (by omega)
              have nb2 := hw9
              refine lv_goto (tgt := 243) hx hb dX4_turn_134 (by decide) ?_
              refine lv_iinc (v := nI (i + 1)) (lv' := [(7, .int (nI (i + 1))), (6, .ref b2), (5, .ref a3), (4, .ref (m0 + 11 + k1)), (0, .ref m0), (1, .int (nI k1)), (2, .int (nI k2)), (3, .int x3)]) hx hb dX4_turn_243 hl (k := 0) rfl (inc_1 _) (by decide) rfl (fun ls hl => ?_)
              refine lv_goto (tgt := 75) hx hb dX4_turn_246 (by decide) ?_
              have e4 : (eN (T 1) 201 (upd zr0 i (nI 0))) = (eN (T 1) 201 zr0) := by (first | (rw [upd_z]; done) | (rw [show (-nI 0 : Int32) = nI 0 from rfl, upd_z]; done))
              exact hnext _ _ _ ⟨hS, lv_sub hl [0, 1, 2, 3, 4, 5, 6, 7] rfl, na3, (by rw [← e4]; exact nb2), hw⟩
            by_cases e84_1 : k2 = 1
            · skip
              refine lv_tableIn (off := 53) (tgt := 137) hx hb dX4_turn_84 (by rw [e84_1]; decide) (by rw [e84_1]; decide) (by rw [e84_1]; rfl) (by decide) ?_
              refine lv_aload hx hb dX4_turn_137 (lv_at hl 1 rfl) ?_
              refine lv_iload hx hb dX4_turn_139 (lv_at hl 0 rfl) ?_
              refine lv_aload hx hb dX4_turn_141 (lv_at hl 3 rfl) ?_
              refine lv_iconst (v := nI 0) hx hb dX4_turn_143 (by decide) ?_
              refine lv_iload hx hb dX4_turn_144 (lv_at hl 0 rfl) ?_
              refine vp_callSi (va_runS (As := [.ref (m0 + 11 + k1), .int (nI 0), .int (nI i)]) (rest := [.int (nI i), .ref b2]) ⟨hx, hb, hml, hown, hts⟩ (conX4_most l D T (m0 + 11 + k1) (nI 0) 0 i (jmax_z0 (by omega)) (by omega) (by omega) (by omega)) (va_cwS 3 hts gX4_turn_X4_most rfl rfl rfl (by decide +kernel) ⟨Nat.le_of_ble_eq_true rfl, Nat.le_of_ble_eq_true rfl⟩) (preS hK ((hw.g k1 (by omega)))) rfl rfl hl.1 rfl (lv_room (Nat.le_of_ble_eq_true rfl)) dX4_turn_146 ⟨Nat.le_of_ble_eq_true rfl, Nat.le_of_ble_eq_true rfl⟩).run (fun r5 hr5 => ?_)
              rw [hr5]
              refine q_iast hx hb hK nb2 i (rfl) (by omega) (by decide) hS (hA _ (by omega)) dX4_turn_149 (fun H1 locs1 hw9 hz oq hS => ?_)
              replace hw := hw.ne oq (by omega)
              replace na3 := na3.ne oq (by omega)
              have nb2 := hw9
              refine lv_goto (tgt := 243) hx hb dX4_turn_150 (by decide) ?_
              refine lv_iinc (v := nI (i + 1)) (lv' := [(7, .int (nI (i + 1))), (6, .ref b2), (5, .ref a3), (4, .ref (m0 + 11 + k1)), (0, .ref m0), (1, .int (nI k1)), (2, .int (nI k2)), (3, .int x3)]) hx hb dX4_turn_243 hl (k := 0) rfl (inc_1 _) (by decide) rfl (fun ls hl => ?_)
              refine lv_goto (tgt := 75) hx hb dX4_turn_246 (by decide) ?_
              have e6 : (eN (T 1) 201 (upd zr0 i (nI 0))) = (eN (T 1) 201 zr0) := by (first | (rw [upd_z]; done) | (rw [show (-nI 0 : Int32) = nI 0 from rfl, upd_z]; done))
              exact hnext _ _ _ ⟨hS, lv_sub hl [0, 1, 2, 3, 4, 5, 6, 7] rfl, na3, (by rw [← e6]; exact nb2), hw⟩
            by_cases e84_2 : k2 = 2
            · skip
              refine lv_tableIn (off := 69) (tgt := 153) hx hb dX4_turn_84 (by rw [e84_2]; decide) (by rw [e84_2]; decide) (by rw [e84_2]; rfl) (by decide) ?_
              refine lv_aload hx hb dX4_turn_153 (lv_at hl 1 rfl) ?_
              refine lv_iload hx hb dX4_turn_155 (lv_at hl 0 rfl) ?_
              refine lv_aload hx hb dX4_turn_157 (lv_at hl 3 rfl) ?_
              refine lv_iload hx hb dX4_turn_159 (lv_at hl 0 rfl) ?_
              refine lv_sipush (v := nI 201) hx hb dX4_turn_161 (by decide) ?_
              refine vp_callSi (va_runS (As := [.ref (m0 + 11 + k1), .int (nI i), .int (nI 201)]) (rest := [.int (nI i), .ref b2]) ⟨hx, hb, hml, hown, hts⟩ (conX4_most l D T (m0 + 11 + k1) (nI i) i 201 (jmax_z0 (by omega)) (by omega) (by omega) (by omega)) (va_cwS 3 hts gX4_turn_X4_most rfl rfl rfl (by decide +kernel) ⟨Nat.le_of_ble_eq_true rfl, Nat.le_of_ble_eq_true rfl⟩) (preS hK ((hw.g k1 (by omega)))) rfl rfl hl.1 rfl (lv_room (Nat.le_of_ble_eq_true rfl)) dX4_turn_164 ⟨Nat.le_of_ble_eq_true rfl, Nat.le_of_ble_eq_true rfl⟩).run (fun r7 hr7 => ?_)
              rw [hr7]
              refine q_iast hx hb hK nb2 i (rfl) (by omega) (by decide) hS (hA _ (by omega)) dX4_turn_167 (fun H1 locs1 hw9 hz oq hS => ?_)
              replace hw := hw.ne oq (by omega)
              replace na3 := na3.ne oq (by omega)
              have nb2 := hw9
              refine lv_goto (tgt := 243) hx hb dX4_turn_168 (by decide) ?_
              refine lv_iinc (v := nI (i + 1)) (lv' := [(7, .int (nI (i + 1))), (6, .ref b2), (5, .ref a3), (4, .ref (m0 + 11 + k1)), (0, .ref m0), (1, .int (nI k1)), (2, .int (nI k2)), (3, .int x3)]) hx hb dX4_turn_243 hl (k := 0) rfl (inc_1 _) (by decide) rfl (fun ls hl => ?_)
              refine lv_goto (tgt := 75) hx hb dX4_turn_246 (by decide) ?_
              have e8 : (eN (T 1) 201 (upd zr0 i (nI 0))) = (eN (T 1) 201 zr0) := by (first | (rw [upd_z]; done) | (rw [show (-nI 0 : Int32) = nI 0 from rfl, upd_z]; done))
              exact hnext _ _ _ ⟨hS, lv_sub hl [0, 1, 2, 3, 4, 5, 6, 7] rfl, na3, (by rw [← e8]; exact nb2), hw⟩
            by_cases e84_3 : k2 = 3
            · skip
              refine lv_tableIn (off := 87) (tgt := 171) hx hb dX4_turn_84 (by rw [e84_3]; decide) (by rw [e84_3]; decide) (by rw [e84_3]; rfl) (by decide) ?_
              refine lv_aload hx hb dX4_turn_171 (lv_at hl 1 rfl) ?_
              refine lv_iload hx hb dX4_turn_173 (lv_at hl 0 rfl) ?_
              refine lv_aload hx hb dX4_turn_175 (lv_at hl 3 rfl) ?_
              refine lv_iload hx hb dX4_turn_177 (lv_at hl 0 rfl) ?_
              refine vp_callSi (va_runS (As := [.ref (m0 + 11 + k1), .int (nI i)]) (rest := [.int (nI i), .ref b2]) ⟨hx, hb, hml, hown, hts⟩ (conX4_sumTo l D T (m0 + 11 + k1) i (by omega)) (va_cwS 2 hts gX4_turn_X4_sumTo rfl rfl rfl (by decide +kernel) ⟨Nat.le_of_ble_eq_true rfl, Nat.le_of_ble_eq_true rfl⟩) (preS hK ((hw.g k1 (by omega)))) rfl rfl hl.1 rfl (lv_room (Nat.le_of_ble_eq_true rfl)) dX4_turn_179 ⟨Nat.le_of_ble_eq_true rfl, Nat.le_of_ble_eq_true rfl⟩).run (fun r9 hr9 => ?_)
              rw [hr9]
              refine q_iast hx hb hK nb2 i (rfl) (by omega) (by decide) hS (hA _ (by omega)) dX4_turn_182 (fun H1 locs1 hw9 hz oq hS => ?_)
              replace hw := hw.ne oq (by omega)
              replace na3 := na3.ne oq (by omega)
              have nb2 := hw9
              refine lv_goto (tgt := 243) hx hb dX4_turn_183 (by decide) ?_
              refine lv_iinc (v := nI (i + 1)) (lv' := [(7, .int (nI (i + 1))), (6, .ref b2), (5, .ref a3), (4, .ref (m0 + 11 + k1)), (0, .ref m0), (1, .int (nI k1)), (2, .int (nI k2)), (3, .int x3)]) hx hb dX4_turn_243 hl (k := 0) rfl (inc_1 _) (by decide) rfl (fun ls hl => ?_)
              refine lv_goto (tgt := 75) hx hb dX4_turn_246 (by decide) ?_
              have e10 : (eN (T 1) 201 (upd zr0 i (nI 0))) = (eN (T 1) 201 zr0) := by (first | (rw [upd_z]; done) | (rw [show (-nI 0 : Int32) = nI 0 from rfl, upd_z]; done))
              exact hnext _ _ _ ⟨hS, lv_sub hl [0, 1, 2, 3, 4, 5, 6, 7] rfl, na3, (by rw [← e10]; exact nb2), hw⟩
            by_cases e84_4 : k2 = 4
            · skip
              refine lv_tableIn (off := 102) (tgt := 186) hx hb dX4_turn_84 (by rw [e84_4]; decide) (by rw [e84_4]; decide) (by rw [e84_4]; rfl) (by decide) ?_
              refine lv_aload hx hb dX4_turn_186 (lv_at hl 1 rfl) ?_
              refine lv_iload hx hb dX4_turn_188 (lv_at hl 0 rfl) ?_
              refine lv_aload hx hb dX4_turn_190 (lv_at hl 3 rfl) ?_
              refine lv_sipush (v := nI 200) hx hb dX4_turn_192 (by decide) ?_
              refine lv_iload hx hb dX4_turn_195 (lv_at hl 0 rfl) ?_
              refine lv_isub hx hb dX4_turn_197 ?_
              rw [pk_sub (a := 200) (b := i) (by omega)]
              refine q_iald hx hb hK (hw.g k1 (by omega)) (200 - i) (rfl) (by omega) (by decide) dX4_turn_198 ?_
              refine W.eq (g2 := F0 m 199 ls [.int (nI 0), .int (nI i), .ref b2]) rfl ?_
              refine q_iast hx hb hK nb2 i (rfl) (by omega) (by decide) hS (hA _ (by omega)) dX4_turn_199 (fun H1 locs1 hw9 hz oq hS => ?_)
              replace hw := hw.ne oq (by omega)
              replace na3 := na3.ne oq (by omega)
              have nb2 := hw9
              refine lv_goto (tgt := 243) hx hb dX4_turn_200 (by decide) ?_
              refine lv_iinc (v := nI (i + 1)) (lv' := [(7, .int (nI (i + 1))), (6, .ref b2), (5, .ref a3), (4, .ref (m0 + 11 + k1)), (0, .ref m0), (1, .int (nI k1)), (2, .int (nI k2)), (3, .int x3)]) hx hb dX4_turn_243 hl (k := 0) rfl (inc_1 _) (by decide) rfl (fun ls hl => ?_)
              refine lv_goto (tgt := 75) hx hb dX4_turn_246 (by decide) ?_
              have e11 : (eN (T 1) 201 (upd zr0 i (nI 0))) = (eN (T 1) 201 zr0) := by (first | (rw [upd_z]; done) | (rw [show (-nI 0 : Int32) = nI 0 from rfl, upd_z]; done))
              exact hnext _ _ _ ⟨hS, lv_sub hl [0, 1, 2, 3, 4, 5, 6, 7] rfl, na3, (by rw [← e11]; exact nb2), hw⟩
            by_cases e84_5 : k2 = 5
            · skip
              refine lv_tableIn (off := 119) (tgt := 203) hx hb dX4_turn_84 (by rw [e84_5]; decide) (by rw [e84_5]; decide) (by rw [e84_5]; rfl) (by decide) ?_
              omega
            refine lv_tableOut (tgt := 224) hx hb dX4_turn_84 (Or.inr (by rw [nI_toInt (by omega)]; omega)) (by decide) ?_
            omega
        · skip
          intro H locs ls hin9
          obtain ⟨hS, hl, na3, nb2, hw⟩ := hin9
          refine lv_iload hx hb dX4_turn_75 (lv_at hl 0 rfl) ?_
          refine lv_sipush (v := nI 201) hx hb dX4_turn_77 (by decide) ?_
          refine lv_icmp_ge (tgt := 249) hx hb dX4_turn_80 (by decide) (fun c80 => ?_) (fun c80 => ?_)
          · skip
            have c80 : 201 ≤ 201 := (nc_le (a := 201) (b := 201) (by omega) (by omega)).mp c80
            refine lv_aload_n hx hb dX4_turn_249 rfl (lv_at hl 4 rfl) ?_
            refine q_get (v := .ref (m0 + 10)) hx hb hts hin4 hown hK hw.o rfl 2 (by decide) (hts (.fieldLink RX4 16 "PuddingstoneLineModel" "values" "[[I") (by decide +kernel)) (fun _ h9 => h9) rfl dX4_turn_250 ?_
            refine lv_iload_n hx hb dX4_turn_253 rfl (lv_at hl 5 rfl) ?_
            refine lv_aload hx hb dX4_turn_254 (lv_at hl 1 rfl) ?_
            refine q_aasta hx hb hK 5 1 (ty := .int) rfl rfl (hK.2.1.2.2.2) hw.v nb2 k1 (rfl) (by omega) (by decide) (hK.1.2 1 _ rfl).2 hS (hA _ (by omega)) dX4_turn_256 (fun H1 locs1 hw9 hz oq hS => ?_)
            have fo := hw.o.ne oq (by omega)
            have fs := hw9
            replace na3 := na3.ne oq (by omega)
            replace nb2 := nb2.ne oq (by omega)
            refine lv_aload hx hb dX4_turn_257 (lv_at hl 1 rfl) ?_
            refine vp_callSi (va_runS (As := [.ref b2]) (rest := []) ⟨hx, hb, hml, hown, hts⟩ (conX4_steps l D T b2 zr0) (va_cwS 1 hts gX4_turn_X4_steps rfl rfl rfl (by decide +kernel) ⟨Nat.le_of_ble_eq_true rfl, Nat.le_of_ble_eq_true rfl⟩) (preS hK nb2) rfl rfl hl.1 rfl (lv_room (Nat.le_of_ble_eq_true rfl)) dX4_turn_259 ⟨Nat.le_of_ble_eq_true rfl, Nat.le_of_ble_eq_true rfl⟩).run (fun r12 hr12 => ?_)
            rw [hr12]
            rw [stpM_z]
            have ht9 : tw_turn (nI k1) (nI k2) x3 = nI 0 := by unfold tw_turn; rw [if_neg c9, if_neg c25, if_neg (fun h9 => absurd ((nI_ltI (by decide) (by omega)).mp h9.1) (by omega))]
            exact W.iret (v := nI 1) hx hb hr (fun t ht _ => ⟨⟨nI 1, (), rfl, by intro _; rfl, by dsimp only; rw [ht]; exact (by rw [ht9]; exact ⟨_, _, fo⟩)⟩, hS.F ht⟩) hS.2.2 dX4_turn_262
          · skip
            have c80 : ¬ (201 ≤ 201) := fun q9 => c80 ((nc_le (a := 201) (b := 201) (by omega) (by omega)).mpr q9)
            omega
      · skip
        have c30 : ¬ (k2 ≤ 4) := fun q9 => c30 ((nc_le (a := k2) (b := 4) (by omega) (by omega)).mpr q9)
        refine lv_iload_n hx hb dX4_turn_33 rfl (lv_at hl 3 rfl) ?_
        refine lv_iconst (v := nI 0) hx hb dX4_turn_34 (by decide) ?_
        refine lv_sipush (v := nI 200) hx hb dX4_turn_35 (by decide) ?_
        refine vp_callSi (va_runS (As := [.int x3, .int (nI 0), .int (nI 200)]) (rest := []) ⟨hx, hb, hml, hown, hts⟩ (conX4_isIn l D T x3 (nI 0) (nI 200)) (va_cwS 3 hts gX4_turn_X4_isIn rfl rfl rfl (by decide +kernel) ⟨Nat.le_of_ble_eq_true rfl, Nat.le_of_ble_eq_true rfl⟩) (preS hK trivial) rfl rfl hl.1 rfl (lv_room (Nat.le_of_ble_eq_true rfl)) dX4_turn_38 ⟨Nat.le_of_ble_eq_true rfl, Nat.le_of_ble_eq_true rfl⟩).run (fun r13 hr13 => ?_)
        rw [hr13]
        refine lv_if_ne (tgt := 50) hx hb dX4_turn_41 (by decide) (fun c41 => ?_) (fun c41 => ?_)
        · skip
          obtain ⟨k3, hk3, rfl⟩ := inM_ok (n := 200) (by decide) c41
          refine lv_aload_n hx hb dX4_turn_50 rfl (lv_at hl 0 rfl) ?_
          refine q_get (v := .ref (m0 + 10)) hx hb hts hin4 hown hK hw.o rfl 2 (by decide) (hts (.fieldLink RX4 16 "PuddingstoneLineModel" "values" "[[I") (by decide +kernel)) (fun _ h9 => h9) rfl dX4_turn_51 ?_
          refine lv_iload_n hx hb dX4_turn_54 rfl (lv_at hl 1 rfl) ?_
          refine q_aald hx hb hK 5 rfl rfl hw.v k1 (rfl) (by omega) (by decide) (b := m0 + 11 + k1) rfl dX4_turn_55 ?_
          refine lv_astore (lv' := [(4, .ref (m0 + 11 + k1)), (0, .ref m0), (1, .int (nI k1)), (2, .int (nI k2)), (3, .int (nI k3))]) hx hb dX4_turn_56 hl (by decide) rfl (fun ls hl => ?_)
          refine lv_aload hx hb dX4_turn_58 (lv_at hl 0 rfl) ?_
          obtain ⟨b1, hb1⟩ : ∃ z : Nat, z = H1.size := ⟨_, rfl⟩
          have lw_b1 : m0 + 16 ≤ b1 := by have h8 := hw.lt; omega
          have ln_b1 : s.heap.size ≤ b1 := by have h8 := hS.1; omega
          refine va_callr (va_runS (As := [.ref (m0 + 11 + k1)]) (rest := []) ⟨hx, hb, hml, hown, hts⟩ (conX4_negated l D T b1 (m0 + 11 + k1)) (va_cwS 1 hts gX4_turn_X4_negated rfl rfl rfl (by decide +kernel) ⟨Nat.le_of_ble_eq_true rfl, Nat.le_of_ble_eq_true rfl⟩) (preS hK ⟨hb1.symm, (hw.g k1 (by omega))⟩) rfl rfl hl.1 rfl (lv_room (Nat.le_of_ble_eq_true rfl)) dX4_turn_60 ⟨Nat.le_of_ble_eq_true rfl, Nat.le_of_ble_eq_true rfl⟩) hS (fun q _ h9 => (hA q (by have h8 : b1 ≤ q := h9; omega))) (fun q h9 => (hA q (by have h8 : b1 ≤ q := h9; omega))) (fun u ra t H1 locs1 ht hvm hw9 hB hz1 hk1 hS => ?_)
          try dsimp only at hB
          rw [ht] at hB
          obtain ⟨a14, rfl⟩ : ∃ z, z = ra := ⟨_, rfl⟩
          obtain ⟨hz_a14, na14⟩ := hB
          replace hw := hw.kept hk1 (fun q h7 h8 (h9 : b1 ≤ q) => by omega)
          refine lv_astore (lv' := [(5, .ref a14), (4, .ref (m0 + 11 + k1)), (0, .ref m0), (1, .int (nI k1)), (2, .int (nI k2)), (3, .int (nI k3))]) hx hb dX4_turn_63 hl (by decide) rfl (fun ls hl => ?_)
          refine lv_sipush (v := nI 201) hx hb dX4_turn_65 (by decide) ?_
          obtain ⟨b2, hb2⟩ : ∃ z : Nat, z = H1.size := ⟨_, rfl⟩
          have lna14_b2 : a14 < b2 := by have h8 := na14.lt; omega
          have lw_b2 : m0 + 16 ≤ b2 := by have h8 := hw.lt; omega
          have ln_b2 : s.heap.size ≤ b2 := by have h8 := hS.1; omega
          refine q_newi hx hb (hts (.arrayClass .int) (by decide +kernel)) hK 201 rfl (by decide) (Nat.le_of_ble_eq_true rfl) (Nat.le_of_ble_eq_true rfl) hS dX4_turn_68 (fun H1 hw9 z1 o1 hS => ?_)
          rw [← hb2] at hw9 ⊢
          replace na14 := na14.old o1
          replace hw := hw.old o1
          have nb2 := hw9
          have sb2 : H1.size = b2 + 1 := by omega
          refine lv_astore (lv' := [(6, .ref b2), (5, .ref a14), (4, .ref (m0 + 11 + k1)), (0, .ref m0), (1, .int (nI k1)), (2, .int (nI k2)), (3, .int (nI k3))]) hx hb dX4_turn_70 hl (by decide) rfl (fun ls hl => ?_)
          refine lv_iconst (v := nI 0) hx hb dX4_turn_72 (by decide) ?_
          refine lv_istore (lv' := [(7, .int (nI 0)), (6, .ref b2), (5, .ref a14), (4, .ref (m0 + 11 + k1)), (0, .ref m0), (1, .int (nI k1)), (2, .int (nI k2)), (3, .int (nI k3))]) hx hb dX4_turn_73 hl (by decide) rfl (fun ls hl => ?_)
          refine q_for (fun (i : Nat) (H : Heap) (locs : List Loc) (ls : Array Slot) => va_S A s.heap H locs ∧ lv_has ls 8 [(7, .int (nI i)), (6, .ref b2), (5, .ref a14), (4, .ref (m0 + 11 + k1)), (0, .ref m0), (1, .int (nI k1)), (2, .int (nI k2)), (3, .int (nI k3))] ∧ pAt D H a14 (eN (T 1) 201 zr0) ∧ pAt D H b2 (eN (T 1) 201 zr0) ∧ MF D T m0 (nI 0) H) (N := 201) 0 (by omega) ?_ ?_ ?_
          · skip
            exact ⟨hS, lv_sub hl [0, 1, 2, 3, 4, 5, 6, 7] rfl, na14, nb2, hw⟩
          · skip
            intro i H locs ls hi9 hin9 hnext
            obtain ⟨hS, hl, na14, nb2, hw⟩ := hin9
            refine lv_iload hx hb dX4_turn_75 (lv_at hl 0 rfl) ?_
            refine lv_sipush (v := nI 201) hx hb dX4_turn_77 (by decide) ?_
            refine lv_icmp_ge (tgt := 249) hx hb dX4_turn_80 (by decide) (fun c80 => ?_) (fun c80 => ?_)
            · skip
              have c80 : 201 ≤ i := (nc_le (a := 201) (b := i) (by omega) (by omega)).mp c80
              omega
            · skip
              have c80 : ¬ (201 ≤ i) := fun q9 => c80 ((nc_le (a := 201) (b := i) (by omega) (by omega)).mpr q9)
              refine lv_iload_n hx hb dX4_turn_83 rfl (lv_at hl 6 rfl) ?_
              by_cases e84_0 : k2 = 0
              · skip
                refine lv_tableIn (off := 40) (tgt := 124) hx hb dX4_turn_84 (by rw [e84_0]; decide) (by rw [e84_0]; decide) (by rw [e84_0]; rfl) (by decide) ?_
                refine lv_aload hx hb dX4_turn_124 (lv_at hl 1 rfl) ?_
                refine lv_iload hx hb dX4_turn_126 (lv_at hl 0 rfl) ?_
                refine lv_aload hx hb dX4_turn_128 (lv_at hl 2 rfl) ?_
                refine lv_iload hx hb dX4_turn_130 (lv_at hl 0 rfl) ?_
                refine q_iald hx hb hK na14 i (rfl) (by omega) (by decide) dX4_turn_132 ?_
                refine W.eq (g2 := F0 m 133 ls [.int (nI 0), .int (nI i), .ref b2]) rfl ?_
                refine q_iast hx hb hK nb2 i (rfl) (by omega) (by decide) hS (hA _ (by omega)) dX4_turn_133 (fun H1 locs1 hw9 hz oq hS => ?_)
                replace hw := hw.ne oq (by omega)
                replace na14 := na14.ne oq (by omega)
                have nb2 := hw9
                refine lv_goto (tgt := 243) hx hb dX4_turn_134 (by decide) ?_
                refine lv_iinc (v := nI (i + 1)) (lv' := [(7, .int (nI (i + 1))), (6, .ref b2), (5, .ref a14), (4, .ref (m0 + 11 + k1)), (0, .ref m0), (1, .int (nI k1)), (2, .int (nI k2)), (3, .int (nI k3))]) hx hb dX4_turn_243 hl (k := 0) rfl (inc_1 _) (by decide) rfl (fun ls hl => ?_)
                refine lv_goto (tgt := 75) hx hb dX4_turn_246 (by decide) ?_
                have e15 : (eN (T 1) 201 (upd zr0 i (nI 0))) = (eN (T 1) 201 zr0) := by (first | (rw [upd_z]; done) | (rw [show (-nI 0 : Int32) = nI 0 from rfl, upd_z]; done))
                exact hnext _ _ _ ⟨hS, lv_sub hl [0, 1, 2, 3, 4, 5, 6, 7] rfl, na14, (by rw [← e15]; exact nb2), hw⟩
              by_cases e84_1 : k2 = 1
              · skip
                refine lv_tableIn (off := 53) (tgt := 137) hx hb dX4_turn_84 (by rw [e84_1]; decide) (by rw [e84_1]; decide) (by rw [e84_1]; rfl) (by decide) ?_
                refine lv_aload hx hb dX4_turn_137 (lv_at hl 1 rfl) ?_
                refine lv_iload hx hb dX4_turn_139 (lv_at hl 0 rfl) ?_
                refine lv_aload hx hb dX4_turn_141 (lv_at hl 3 rfl) ?_
                refine lv_iconst (v := nI 0) hx hb dX4_turn_143 (by decide) ?_
                refine lv_iload hx hb dX4_turn_144 (lv_at hl 0 rfl) ?_
                refine vp_callSi (va_runS (As := [.ref (m0 + 11 + k1), .int (nI 0), .int (nI i)]) (rest := [.int (nI i), .ref b2]) ⟨hx, hb, hml, hown, hts⟩ (conX4_most l D T (m0 + 11 + k1) (nI 0) 0 i (jmax_z0 (by omega)) (by omega) (by omega) (by omega)) (va_cwS 3 hts gX4_turn_X4_most rfl rfl rfl (by decide +kernel) ⟨Nat.le_of_ble_eq_true rfl, Nat.le_of_ble_eq_true rfl⟩) (preS hK ((hw.g k1 (by omega)))) rfl rfl hl.1 rfl (lv_room (Nat.le_of_ble_eq_true rfl)) dX4_turn_146 ⟨Nat.le_of_ble_eq_true rfl, Nat.le_of_ble_eq_true rfl⟩).run (fun r16 hr16 => ?_)
                rw [hr16]
                refine q_iast hx hb hK nb2 i (rfl) (by omega) (by decide) hS (hA _ (by omega)) dX4_turn_149 (fun H1 locs1 hw9 hz oq hS => ?_)
                replace hw := hw.ne oq (by omega)
                replace na14 := na14.ne oq (by omega)
                have nb2 := hw9
                refine lv_goto (tgt := 243) hx hb dX4_turn_150 (by decide) ?_
                refine lv_iinc (v := nI (i + 1)) (lv' := [(7, .int (nI (i + 1))), (6, .ref b2), (5, .ref a14), (4, .ref (m0 + 11 + k1)), (0, .ref m0), (1, .int (nI k1)), (2, .int (nI k2)), (3, .int (nI k3))]) hx hb dX4_turn_243 hl (k := 0) rfl (inc_1 _) (by decide) rfl (fun ls hl => ?_)
                refine lv_goto (tgt := 75) hx hb dX4_turn_246 (by decide) ?_
                have e17 : (eN (T 1) 201 (upd zr0 i (nI 0))) = (eN (T 1) 201 zr0) := by (first | (rw [upd_z]; done) | (rw [show (-nI 0 : Int32) = nI 0 from rfl, upd_z]; done))
                exact hnext _ _ _ ⟨hS, lv_sub hl [0, 1, 2, 3, 4, 5, 6, 7] rfl, na14, (by rw [← e17]; exact nb2), hw⟩
              by_cases e84_2 : k2 = 2
              · skip
                refine lv_tableIn (off := 69) (tgt := 153) hx hb dX4_turn_84 (by rw [e84_2]; decide) (by rw [e84_2]; decide) (by rw [e84_2]; rfl) (by decide) ?_
                refine lv_aload hx hb dX4_turn_153 (lv_at hl 1 rfl) ?_
                refine lv_iload hx hb dX4_turn_155 (lv_at hl 0 rfl) ?_
                refine lv_aload hx hb dX4_turn_157 (lv_at hl 3 rfl) ?_
                refine lv_iload hx hb dX4_turn_159 (lv_at hl 0 rfl) ?_
                refine lv_sipush (v := nI 201) hx hb dX4_turn_161 (by decide) ?_
                refine vp_callSi (va_runS (As := [.ref (m0 + 11 + k1), .int (nI i), .int (nI 201)]) (rest := [.int (nI i), .ref b2]) ⟨hx, hb, hml, hown, hts⟩ (conX4_most l D T (m0 + 11 + k1) (nI i) i 201 (jmax_z0 (by omega)) (by omega) (by omega) (by omega)) (va_cwS 3 hts gX4_turn_X4_most rfl rfl rfl (by decide +kernel) ⟨Nat.le_of_ble_eq_true rfl, Nat.le_of_ble_eq_true rfl⟩) (preS hK ((hw.g k1 (by omega)))) rfl rfl hl.1 rfl (lv_room (Nat.le_of_ble_eq_true rfl)) dX4_turn_164 ⟨Nat.le_of_ble_eq_true rfl, Nat.le_of_ble_eq_true rfl⟩).run (fun r18 hr18 => ?_)
                rw [hr18]
                refine q_iast hx hb hK nb2 i (rfl) (by omega) (by decide) hS (hA _ (by omega)) dX4_turn_167 (fun H1 locs1 hw9 hz oq hS => ?_)
                replace hw := hw.ne oq (by omega)
                replace na14 := na14.ne oq (by omega)
                have nb2 := hw9
                refine lv_goto (tgt := 243) hx hb dX4_turn_168 (by decide) ?_
                refine lv_iinc (v := nI (i + 1)) (lv' := [(7, .int (nI (i + 1))), (6, .ref b2), (5, .ref a14), (4, .ref (m0 + 11 + k1)), (0, .ref m0), (1, .int (nI k1)), (2, .int (nI k2)), (3, .int (nI k3))]) hx hb dX4_turn_243 hl (k := 0) rfl (inc_1 _) (by decide) rfl (fun ls hl => ?_)
                refine lv_goto (tgt := 75) hx hb dX4_turn_246 (by decide) ?_
                have e19 : (eN (T 1) 201 (upd zr0 i (nI 0))) = (eN (T 1) 201 zr0) := by (first | (rw [upd_z]; done) | (rw [show (-nI 0 : Int32) = nI 0 from rfl, upd_z]; done))
                exact hnext _ _ _ ⟨hS, lv_sub hl [0, 1, 2, 3, 4, 5, 6, 7] rfl, na14, (by rw [← e19]; exact nb2), hw⟩
              by_cases e84_3 : k2 = 3
              · skip
                refine lv_tableIn (off := 87) (tgt := 171) hx hb dX4_turn_84 (by rw [e84_3]; decide) (by rw [e84_3]; decide) (by rw [e84_3]; rfl) (by decide) ?_
                refine lv_aload hx hb dX4_turn_171 (lv_at hl 1 rfl) ?_
                refine lv_iload hx hb dX4_turn_173 (lv_at hl 0 rfl) ?_
                refine lv_aload hx hb dX4_turn_175 (lv_at hl 3 rfl) ?_
                refine lv_iload hx hb dX4_turn_177 (lv_at hl 0 rfl) ?_
                refine vp_callSi (va_runS (As := [.ref (m0 + 11 + k1), .int (nI i)]) (rest := [.int (nI i), .ref b2]) ⟨hx, hb, hml, hown, hts⟩ (conX4_sumTo l D T (m0 + 11 + k1) i (by omega)) (va_cwS 2 hts gX4_turn_X4_sumTo rfl rfl rfl (by decide +kernel) ⟨Nat.le_of_ble_eq_true rfl, Nat.le_of_ble_eq_true rfl⟩) (preS hK ((hw.g k1 (by omega)))) rfl rfl hl.1 rfl (lv_room (Nat.le_of_ble_eq_true rfl)) dX4_turn_179 ⟨Nat.le_of_ble_eq_true rfl, Nat.le_of_ble_eq_true rfl⟩).run (fun r20 hr20 => ?_)
                rw [hr20]
                refine q_iast hx hb hK nb2 i (rfl) (by omega) (by decide) hS (hA _ (by omega)) dX4_turn_182 (fun H1 locs1 hw9 hz oq hS => ?_)
                replace hw := hw.ne oq (by omega)
                replace na14 := na14.ne oq (by omega)
                have nb2 := hw9
                refine lv_goto (tgt := 243) hx hb dX4_turn_183 (by decide) ?_
                refine lv_iinc (v := nI (i + 1)) (lv' := [(7, .int (nI (i + 1))), (6, .ref b2), (5, .ref a14), (4, .ref (m0 + 11 + k1)), (0, .ref m0), (1, .int (nI k1)), (2, .int (nI k2)), (3, .int (nI k3))]) hx hb dX4_turn_243 hl (k := 0) rfl (inc_1 _) (by decide) rfl (fun ls hl => ?_)
                refine lv_goto (tgt := 75) hx hb dX4_turn_246 (by decide) ?_
                have e21 : (eN (T 1) 201 (upd zr0 i (nI 0))) = (eN (T 1) 201 zr0) := by (first | (rw [upd_z]; done) | (rw [show (-nI 0 : Int32) = nI 0 from rfl, upd_z]; done))
                exact hnext _ _ _ ⟨hS, lv_sub hl [0, 1, 2, 3, 4, 5, 6, 7] rfl, na14, (by rw [← e21]; exact nb2), hw⟩
              by_cases e84_4 : k2 = 4
              · skip
                refine lv_tableIn (off := 102) (tgt := 186) hx hb dX4_turn_84 (by rw [e84_4]; decide) (by rw [e84_4]; decide) (by rw [e84_4]; rfl) (by decide) ?_
                refine lv_aload hx hb dX4_turn_186 (lv_at hl 1 rfl) ?_
                refine lv_iload hx hb dX4_turn_188 (lv_at hl 0 rfl) ?_
                refine lv_aload hx hb dX4_turn_190 (lv_at hl 3 rfl) ?_
                refine lv_sipush (v := nI 200) hx hb dX4_turn_192 (by decide) ?_
                refine lv_iload hx hb dX4_turn_195 (lv_at hl 0 rfl) ?_
                refine lv_isub hx hb dX4_turn_197 ?_
                rw [pk_sub (a := 200) (b := i) (by omega)]
                refine q_iald hx hb hK (hw.g k1 (by omega)) (200 - i) (rfl) (by omega) (by decide) dX4_turn_198 ?_
                refine W.eq (g2 := F0 m 199 ls [.int (nI 0), .int (nI i), .ref b2]) rfl ?_
                refine q_iast hx hb hK nb2 i (rfl) (by omega) (by decide) hS (hA _ (by omega)) dX4_turn_199 (fun H1 locs1 hw9 hz oq hS => ?_)
                replace hw := hw.ne oq (by omega)
                replace na14 := na14.ne oq (by omega)
                have nb2 := hw9
                refine lv_goto (tgt := 243) hx hb dX4_turn_200 (by decide) ?_
                refine lv_iinc (v := nI (i + 1)) (lv' := [(7, .int (nI (i + 1))), (6, .ref b2), (5, .ref a14), (4, .ref (m0 + 11 + k1)), (0, .ref m0), (1, .int (nI k1)), (2, .int (nI k2)), (3, .int (nI k3))]) hx hb dX4_turn_243 hl (k := 0) rfl (inc_1 _) (by decide) rfl (fun ls hl => ?_)
                refine lv_goto (tgt := 75) hx hb dX4_turn_246 (by decide) ?_
                have e22 : (eN (T 1) 201 (upd zr0 i (nI 0))) = (eN (T 1) 201 zr0) := by (first | (rw [upd_z]; done) | (rw [show (-nI 0 : Int32) = nI 0 from rfl, upd_z]; done))
                exact hnext _ _ _ ⟨hS, lv_sub hl [0, 1, 2, 3, 4, 5, 6, 7] rfl, na14, (by rw [← e22]; exact nb2), hw⟩
              by_cases e84_5 : k2 = 5
              · skip
                refine lv_tableIn (off := 119) (tgt := 203) hx hb dX4_turn_84 (by rw [e84_5]; decide) (by rw [e84_5]; decide) (by rw [e84_5]; rfl) (by decide) ?_
                refine lv_aload hx hb dX4_turn_203 (lv_at hl 1 rfl) ?_
                refine lv_iload hx hb dX4_turn_205 (lv_at hl 0 rfl) ?_
                refine lv_aload hx hb dX4_turn_207 (lv_at hl 3 rfl) ?_
                refine lv_iload hx hb dX4_turn_209 (lv_at hl 0 rfl) ?_
                refine lv_iload_n hx hb dX4_turn_211 rfl (lv_at hl 7 rfl) ?_
                refine lv_isub hx hb dX4_turn_212 ?_
                refine lv_iload hx hb dX4_turn_213 (lv_at hl 0 rfl) ?_
                refine lv_iload_n hx hb dX4_turn_215 rfl (lv_at hl 7 rfl) ?_
                refine lv_iadd hx hb dX4_turn_216 ?_
                rw [nI_add]
                refine vp_callSi (va_runS (As := [.ref (m0 + 11 + k1), .int ((nI i) - (nI k3)), .int (nI (i + k3))]) (rest := [.int (nI i), .ref b2]) ⟨hx, hb, hml, hown, hts⟩ (conX4_most l D T (m0 + 11 + k1) ((nI i) - (nI k3)) (i - k3) (i + k3) (jmax_zs (by omega) (by omega)) (by omega) (by omega) (by omega)) (va_cwS 3 hts gX4_turn_X4_most rfl rfl rfl (by decide +kernel) ⟨Nat.le_of_ble_eq_true rfl, Nat.le_of_ble_eq_true rfl⟩) (preS hK ((hw.g k1 (by omega)))) rfl rfl hl.1 rfl (lv_room (Nat.le_of_ble_eq_true rfl)) dX4_turn_217 ⟨Nat.le_of_ble_eq_true rfl, Nat.le_of_ble_eq_true rfl⟩).run (fun r23 hr23 => ?_)
                rw [hr23]
                refine q_iast hx hb hK nb2 i (rfl) (by omega) (by decide) hS (hA _ (by omega)) dX4_turn_220 (fun H1 locs1 hw9 hz oq hS => ?_)
                replace hw := hw.ne oq (by omega)
                replace na14 := na14.ne oq (by omega)
                have nb2 := hw9
                refine lv_goto (tgt := 243) hx hb dX4_turn_221 (by decide) ?_
                refine lv_iinc (v := nI (i + 1)) (lv' := [(7, .int (nI (i + 1))), (6, .ref b2), (5, .ref a14), (4, .ref (m0 + 11 + k1)), (0, .ref m0), (1, .int (nI k1)), (2, .int (nI k2)), (3, .int (nI k3))]) hx hb dX4_turn_243 hl (k := 0) rfl (inc_1 _) (by decide) rfl (fun ls hl => ?_)
                refine lv_goto (tgt := 75) hx hb dX4_turn_246 (by decide) ?_
                have e24 : (eN (T 1) 201 (upd zr0 i (nI 0))) = (eN (T 1) 201 zr0) := by (first | (rw [upd_z]; done) | (rw [show (-nI 0 : Int32) = nI 0 from rfl, upd_z]; done))
                exact hnext _ _ _ ⟨hS, lv_sub hl [0, 1, 2, 3, 4, 5, 6, 7] rfl, na14, (by rw [← e24]; exact nb2), hw⟩
              refine lv_tableOut (tgt := 224) hx hb dX4_turn_84 (Or.inr (by rw [nI_toInt (by omega)]; omega)) (by decide) ?_
              refine lv_aload hx hb dX4_turn_224 (lv_at hl 1 rfl) ?_
              refine lv_iload hx hb dX4_turn_226 (lv_at hl 0 rfl) ?_
              refine lv_aload hx hb dX4_turn_228 (lv_at hl 2 rfl) ?_
              refine lv_iload hx hb dX4_turn_230 (lv_at hl 0 rfl) ?_
              refine lv_iload_n hx hb dX4_turn_232 rfl (lv_at hl 7 rfl) ?_
              refine lv_isub hx hb dX4_turn_233 ?_
              refine lv_iload hx hb dX4_turn_234 (lv_at hl 0 rfl) ?_
              refine lv_iload_n hx hb dX4_turn_236 rfl (lv_at hl 7 rfl) ?_
              refine lv_iadd hx hb dX4_turn_237 ?_
              rw [nI_add]
              refine vp_callSi (va_runS (As := [.ref a14, .int ((nI i) - (nI k3)), .int (nI (i + k3))]) (rest := [.int (nI i), .ref b2]) ⟨hx, hb, hml, hown, hts⟩ (conX4_most l D T a14 ((nI i) - (nI k3)) (i - k3) (i + k3) (jmax_zs (by omega) (by omega)) (by omega) (by omega) (by omega)) (va_cwS 3 hts gX4_turn_X4_most rfl rfl rfl (by decide +kernel) ⟨Nat.le_of_ble_eq_true rfl, Nat.le_of_ble_eq_true rfl⟩) (preS hK na14) rfl rfl hl.1 rfl (lv_room (Nat.le_of_ble_eq_true rfl)) dX4_turn_238 ⟨Nat.le_of_ble_eq_true rfl, Nat.le_of_ble_eq_true rfl⟩).run (fun r25 hr25 => ?_)
              rw [hr25]
              refine lv_ineg hx hb dX4_turn_241 ?_
              refine q_iast hx hb hK nb2 i (rfl) (by omega) (by decide) hS (hA _ (by omega)) dX4_turn_242 (fun H1 locs1 hw9 hz oq hS => ?_)
              replace hw := hw.ne oq (by omega)
              replace na14 := na14.ne oq (by omega)
              have nb2 := hw9
              refine lv_iinc (v := nI (i + 1)) (lv' := [(7, .int (nI (i + 1))), (6, .ref b2), (5, .ref a14), (4, .ref (m0 + 11 + k1)), (0, .ref m0), (1, .int (nI k1)), (2, .int (nI k2)), (3, .int (nI k3))]) hx hb dX4_turn_243 hl (k := 0) rfl (inc_1 _) (by decide) rfl (fun ls hl => ?_)
              refine lv_goto (tgt := 75) hx hb dX4_turn_246 (by decide) ?_
              have e26 : (eN (T 1) 201 (upd zr0 i (-(nI 0)))) = (eN (T 1) 201 zr0) := by (first | (rw [upd_z]; done) | (rw [show (-nI 0 : Int32) = nI 0 from rfl, upd_z]; done))
              exact hnext _ _ _ ⟨hS, lv_sub hl [0, 1, 2, 3, 4, 5, 6, 7] rfl, na14, (by rw [← e26]; exact nb2), hw⟩
          · skip
            intro H locs ls hin9
            obtain ⟨hS, hl, na14, nb2, hw⟩ := hin9
            refine lv_iload hx hb dX4_turn_75 (lv_at hl 0 rfl) ?_
            refine lv_sipush (v := nI 201) hx hb dX4_turn_77 (by decide) ?_
            refine lv_icmp_ge (tgt := 249) hx hb dX4_turn_80 (by decide) (fun c80 => ?_) (fun c80 => ?_)
            · skip
              have c80 : 201 ≤ 201 := (nc_le (a := 201) (b := 201) (by omega) (by omega)).mp c80
              refine lv_aload_n hx hb dX4_turn_249 rfl (lv_at hl 4 rfl) ?_
              refine q_get (v := .ref (m0 + 10)) hx hb hts hin4 hown hK hw.o rfl 2 (by decide) (hts (.fieldLink RX4 16 "PuddingstoneLineModel" "values" "[[I") (by decide +kernel)) (fun _ h9 => h9) rfl dX4_turn_250 ?_
              refine lv_iload_n hx hb dX4_turn_253 rfl (lv_at hl 5 rfl) ?_
              refine lv_aload hx hb dX4_turn_254 (lv_at hl 1 rfl) ?_
              refine q_aasta hx hb hK 5 1 (ty := .int) rfl rfl (hK.2.1.2.2.2) hw.v nb2 k1 (rfl) (by omega) (by decide) (hK.1.2 1 _ rfl).2 hS (hA _ (by omega)) dX4_turn_256 (fun H1 locs1 hw9 hz oq hS => ?_)
              have fo := hw.o.ne oq (by omega)
              have fs := hw9
              replace na14 := na14.ne oq (by omega)
              replace nb2 := nb2.ne oq (by omega)
              refine lv_aload hx hb dX4_turn_257 (lv_at hl 1 rfl) ?_
              refine vp_callSi (va_runS (As := [.ref b2]) (rest := []) ⟨hx, hb, hml, hown, hts⟩ (conX4_steps l D T b2 zr0) (va_cwS 1 hts gX4_turn_X4_steps rfl rfl rfl (by decide +kernel) ⟨Nat.le_of_ble_eq_true rfl, Nat.le_of_ble_eq_true rfl⟩) (preS hK nb2) rfl rfl hl.1 rfl (lv_room (Nat.le_of_ble_eq_true rfl)) dX4_turn_259 ⟨Nat.le_of_ble_eq_true rfl, Nat.le_of_ble_eq_true rfl⟩).run (fun r27 hr27 => ?_)
              rw [hr27]
              rw [stpM_z]
              have ht9 : tw_turn (nI k1) (nI k2) (nI k3) = nI 0 := by unfold tw_turn; rw [if_neg c9, if_neg c25, if_neg (fun h9 => c41 h9.2)]
              exact W.iret (v := nI 1) hx hb hr (fun t ht _ => ⟨⟨nI 1, (), rfl, by intro _; rfl, by dsimp only; rw [ht]; exact (by rw [ht9]; exact ⟨_, _, fo⟩)⟩, hS.F ht⟩) hS.2.2 dX4_turn_262
            · skip
              have c80 : ¬ (201 ≤ 201) := fun q9 => c80 ((nc_le (a := 201) (b := 201) (by omega) (by omega)).mpr q9)
              omega
        · skip
          refine lv_aload_n hx hb dX4_turn_44 rfl (lv_at hl 0 rfl) ?_
          refine lv_iconst (v := nI 2) hx hb dX4_turn_45 (by decide) ?_
          refine va_calli (va_runV (As := [.int (nI 2)]) (rest := []) ⟨hx, hb, hml, hown, hts⟩ (conX4_no l D T m0 (nI 0) (nI 2) (.ref (m0 + 1)) (.ref (m0 + 10))) (cwV 1 hts gX4_turn_X4_no rfl rfl rfl (by decide +kernel) ⟨Nat.le_of_ble_eq_true rfl, Nat.le_of_ble_eq_true rfl⟩) (preV hK hw.o rfl hw.o) rfl rfl hl.1 rfl (lv_room (Nat.le_of_ble_eq_true rfl)) dX4_turn_46 ⟨Nat.le_of_ble_eq_true rfl, Nat.le_of_ble_eq_true rfl⟩) hS (fun q _ h9 => (hA q (by have h8 : q = m0 := h9; omega))) (fun q h9 => (hA q (by have h8 : q = m0 := h9; omega))) (fun r u t H1 locs1 ht hvm hw9 hB hz1 hk1 hS => ?_)
          try dsimp only at hB
          rw [ht] at hB
          rw [hw9]
          replace hw := hw.setK hB hk1
          have ht9 : tw_turn (nI k1) (nI k2) x3 = nI 2 := by unfold tw_turn; rw [if_neg c9, if_neg c25, if_pos ⟨(nI_ltI (by decide) (by omega)).mpr (by omega), c41⟩]
          refine W.widen (k := 2) (n := 402) (by first | omega | decide) (by first | omega | decide) ?_
          exact W.iret (v := nI 0) hx hb hr (fun t ht _ => ⟨⟨nI 0, (), rfl, by exact fun h9 => absurd (ht9.symm.trans h9) (by decide), by dsimp only; rw [ht]; exact (by rw [ht9]; exact ⟨_, _, hw.o⟩)⟩, hS.F ht⟩) hS.2.2 dX4_turn_49
  · skip
    refine lv_aload_n hx hb dX4_turn_12 rfl (lv_at hl 0 rfl) ?_
    refine lv_iconst (v := nI 1) hx hb dX4_turn_13 (by decide) ?_
    refine va_calli (va_runV (As := [.int (nI 1)]) (rest := []) ⟨hx, hb, hml, hown, hts⟩ (conX4_no l D T m0 (nI 0) (nI 1) (.ref (m0 + 1)) (.ref (m0 + 10))) (cwV 1 hts gX4_turn_X4_no rfl rfl rfl (by decide +kernel) ⟨Nat.le_of_ble_eq_true rfl, Nat.le_of_ble_eq_true rfl⟩) (preV hK hw.o rfl hw.o) rfl rfl hl.1 rfl (lv_room (Nat.le_of_ble_eq_true rfl)) dX4_turn_14 ⟨Nat.le_of_ble_eq_true rfl, Nat.le_of_ble_eq_true rfl⟩) hS (fun q _ h9 => (hA q (by have h8 : q = m0 := h9; omega))) (fun q h9 => (hA q (by have h8 : q = m0 := h9; omega))) (fun r u t H1 locs1 ht hvm hw9 hB hz1 hk1 hS => ?_)
    try dsimp only at hB
    rw [ht] at hB
    rw [hw9]
    replace hw := hw.setK hB hk1
    have ht9 : tw_turn x1 x2 x3 = nI 1 := by unfold tw_turn; rw [if_pos c9]
    refine W.widen (k := 2) (n := 402) (by first | omega | decide) (by first | omega | decide) ?_
    exact W.iret (v := nI 0) hx hb hr (fun t ht _ => ⟨⟨nI 0, (), rfl, by exact fun h9 => absurd (ht9.symm.trans h9) (by decide), by dsimp only; rw [ht]; exact (by rw [ht9]; exact ⟨_, _, hw.o⟩)⟩, hS.F ht⟩) hS.2.2 dX4_turn_17

set_option maxHeartbeats 4000000 in
set_option maxRecDepth 100000 in
theorem conX4_where (l : Launch) (D : va_G) (T : Nat → ClassId) (sz m0 : Nat) (th x1 x2 x3 x4 : Int32) : Met l yX4_where wsX4_where ({ frames := 2, cells := 0, slots := 0, locals := 42 }) (cP D T [.ref m0, .int x1, .int x2, .int x3, .int x4] (fun H => H.size = sz ∧ MF D T m0 th H)) (va_Qi (fun (r : Int32) (_ : Unit) => tw_where x1 x2 x3 x4 = nI 0 → r = cntc (inM (nI 0) x3 x4) 201) (fun _ t => MT D m0 (tw_where x1 x2 x3 x4) t.heap) (MA m0 sz)) 0 0 (MA m0 sz) := by
  refine Met.ofW (cc := cX4_where) (maxL := 6) (ret := (some .int)) (by decide) rfl ?_
  intro p e s m args below meth c s₁ B hml hv9
  obtain ⟨rfl, hK, hsz, hw⟩ := hv9
  have hx := B.exec
  have hb := B.bytes
  have hr := B.returns
  have hts := atoms_spec (ws := wsX4_where) B.pre
  have hown : s.vm.findClass RX4 = some m.cls := findClass_of_methodNamed B.named
  have hlocks := B.notSynchronized
  have hin4 : ∀ w ∈ wsX40, w ∈ wsX4_where := by decide +kernel
  generalize hAe : (MA m0 sz) = A
  have hA : ∀ q : Nat, ((m0 ≤ q ∧ q < m0 + 16) ∨ s.heap.size ≤ q) → A q := fun q h9 => by subst hAe; show (m0 ≤ q ∧ q < m0 + 16) ∨ sz ≤ q; omega
  have hS : va_S A s.heap s.heap [] := va_S.rf
  have hl := lv_entry ([.ref m0, .int x1, .int x2, .int x3, .int x4]) (n := 6) (Nat.le_of_ble_eq_true rfl)
  rw [lg_entry_eq]
  generalize (lg_sl ([.ref m0, .int x1, .int x2, .int x3, .int x4]) ++ List.replicate (6 - (lg_sl ([.ref m0, .int x1, .int x2, .int x3, .int x4])).length) Slot.unset).toArray = ls at hl ⊢
  have hl : lv_has ls 6 [(0, .ref m0), (1, .int x1), (2, .int x2), (3, .int x3), (4, .int x4)] := hl
  refine lv_aload_n hx hb dX4_where_0 rfl (lv_at hl 0 rfl) ?_
  refine lv_iconst (v := nI 0) hx hb dX4_where_1 (by decide) ?_
  refine q_put (v := .int (nI 0)) hx hb hts hin4 tyX4 tyX4_ok nmX4 hown hK hw.o rfl 0 (by decide) (hts (.fieldLink RX4 19 "PuddingstoneLineModel" "thrown" "I") (by decide +kernel)) (fun _ h9 => h9) rfl rfl rfl (Nat.le_of_ble_eq_true rfl) hS (hA _ (by omega)) dX4_where_2 (fun H1 locs1 hw9 oq hS => ?_)
  replace hw := hw.setO hw9 oq
  refine lv_iload_n hx hb dX4_where_5 rfl (lv_at hl 1 rfl) ?_
  refine vp_callSi (va_runS (As := [.int x1]) (rest := []) ⟨hx, hb, hml, hown, hts⟩ (conX4_isSet l D T x1) (va_cwS 1 hts gX4_where_X4_isSet rfl rfl rfl (by decide +kernel) ⟨Nat.le_of_ble_eq_true rfl, Nat.le_of_ble_eq_true rfl⟩) (preS hK trivial) rfl rfl hl.1 rfl (lv_room (Nat.le_of_ble_eq_true rfl)) dX4_where_6 ⟨Nat.le_of_ble_eq_true rfl, Nat.le_of_ble_eq_true rfl⟩).run (fun r1 hr1 => ?_)
  rw [hr1]
  refine lv_if_eq (tgt := 19) hx hb dX4_where_9 (by decide) (fun c9 => ?_) (fun c9 => ?_)
  · skip
    refine lv_aload_n hx hb dX4_where_19 rfl (lv_at hl 0 rfl) ?_
    refine lv_iconst (v := nI 1) hx hb dX4_where_20 (by decide) ?_
    refine va_calli (va_runV (As := [.int (nI 1)]) (rest := []) ⟨hx, hb, hml, hown, hts⟩ (conX4_no l D T m0 (nI 0) (nI 1) (.ref (m0 + 1)) (.ref (m0 + 10))) (cwV 1 hts gX4_where_X4_no rfl rfl rfl (by decide +kernel) ⟨Nat.le_of_ble_eq_true rfl, Nat.le_of_ble_eq_true rfl⟩) (preV hK hw.o rfl hw.o) rfl rfl hl.1 rfl (lv_room (Nat.le_of_ble_eq_true rfl)) dX4_where_21 ⟨Nat.le_of_ble_eq_true rfl, Nat.le_of_ble_eq_true rfl⟩) hS (fun q _ h9 => (hA q (by have h8 : q = m0 := h9; omega))) (fun q h9 => (hA q (by have h8 : q = m0 := h9; omega))) (fun r u t H1 locs1 ht hvm hw9 hB hz1 hk1 hS => ?_)
    try dsimp only at hB
    rw [ht] at hB
    rw [hw9]
    replace hw := hw.setK hB hk1
    have ht9 : tw_where x1 x2 x3 x4 = nI 1 := by unfold tw_where; rw [if_pos c9]
    exact W.iret (v := nI 0) hx hb hr (fun t ht _ => ⟨⟨nI 0, (), rfl, by exact fun h9 => absurd (ht9.symm.trans h9) (by decide), by dsimp only; rw [ht]; exact (by rw [ht9]; exact ⟨_, _, hw.o⟩)⟩, hS.F ht⟩) hS.2.2 dX4_where_24
  · skip
    obtain ⟨k1, hk1, rfl⟩ := inM_ok (n := 7) (by decide) c9
    refine lv_iload_n hx hb dX4_where_12 rfl (lv_at hl 2 rfl) ?_
    refine vp_callSi (va_runS (As := [.int x2]) (rest := []) ⟨hx, hb, hml, hown, hts⟩ (conX4_isFunction l D T x2) (va_cwS 1 hts gX4_where_X4_isFunction rfl rfl rfl (by decide +kernel) ⟨Nat.le_of_ble_eq_true rfl, Nat.le_of_ble_eq_true rfl⟩) (preS hK trivial) rfl rfl hl.1 rfl (lv_room (Nat.le_of_ble_eq_true rfl)) dX4_where_13 ⟨Nat.le_of_ble_eq_true rfl, Nat.le_of_ble_eq_true rfl⟩).run (fun r2 hr2 => ?_)
    rw [hr2]
    refine lv_if_ne (tgt := 25) hx hb dX4_where_16 (by decide) (fun c16 => ?_) (fun c16 => ?_)
    · skip
      obtain ⟨k2, hk2, rfl⟩ := inM_ok (n := 4) (by decide) c16
      have fo := hw.o
      have fs := hw.s
      have fv := hw.v
      have fr := hw.f k1 (by omega)
      have fg := hw.g k2 (by omega)
      refine lv_iconst (v := nI 0) hx hb dX4_where_25 (by decide) ?_
      refine lv_istore (lv' := [(5, .int (nI 0)), (0, .ref m0), (1, .int (nI k1)), (2, .int (nI k2)), (3, .int x3), (4, .int x4)]) hx hb dX4_where_26 hl (by decide) rfl (fun ls hl => ?_)
      refine q_for (fun (i : Nat) (H : Heap) (locs : List Loc) (ls : Array Slot) => va_S A s.heap H locs ∧ lv_has ls 6 [(5, .int (nI i)), (0, .ref m0), (1, .int (nI k1)), (2, .int (nI k2)), (3, .int x3), (4, .int x4)] ∧ pAt D H m0 (eO 4 [.int (nI 0), .ref (m0 + 1), .ref (m0 + 10)]) ∧ pAt D H (m0 + 1) (eR (T 4) 8 (fun i => some (m0 + 2 + i))) ∧ pAt D H (m0 + 10) (eR (T 5) 5 (fun i => some (m0 + 11 + i))) ∧ pAt D H (m0 + 2 + k1) (eN (T 0) 201 (rwI (inM (nI 0) x3 x4) i)) ∧ pAt D H (m0 + 11 + k2) (eN (T 1) 201 zr0)) (N := 201) 0 (by omega) ?_ ?_ ?_
      · skip
        have e3 : (eN (T 0) 201 zr0) = (eN (T 0) 201 (rwI (inM (nI 0) x3 x4) 0)) := by (rw [rwI_0])
        exact ⟨hS, lv_sub hl [0, 1, 2, 3, 4, 5] rfl, fo, fs, fv, (by rw [← e3]; exact fr), fg⟩
      · skip
        intro i H locs ls hi9 hin9 hnext
        obtain ⟨hS, hl, fo, fs, fv, fr, fg⟩ := hin9
        refine lv_iload hx hb dX4_where_28 (lv_at hl 0 rfl) ?_
        refine lv_sipush (v := nI 201) hx hb dX4_where_30 (by decide) ?_
        refine lv_icmp_ge (tgt := 66) hx hb dX4_where_33 (by decide) (fun c33 => ?_) (fun c33 => ?_)
        · skip
          have c33 : 201 ≤ i := (nc_le (a := 201) (b := i) (by omega) (by omega)).mp c33
          omega
        · skip
          have c33 : ¬ (201 ≤ i) := fun q9 => c33 ((nc_le (a := 201) (b := i) (by omega) (by omega)).mpr q9)
          refine lv_aload_n hx hb dX4_where_36 rfl (lv_at hl 1 rfl) ?_
          refine q_get (v := .ref (m0 + 1)) hx hb hts hin4 hown hK fo rfl 1 (by decide) (hts (.fieldLink RX4 11 "PuddingstoneLineModel" "sets" "[[Z") (by decide +kernel)) (fun _ h9 => h9) rfl dX4_where_37 ?_
          refine lv_iload_n hx hb dX4_where_40 rfl (lv_at hl 2 rfl) ?_
          refine q_aald hx hb hK 4 rfl rfl fs k1 (rfl) (by omega) (by decide) (b := m0 + 2 + k1) rfl dX4_where_41 ?_
          refine lv_iload hx hb dX4_where_42 (lv_at hl 0 rfl) ?_
          refine lv_aload_n hx hb dX4_where_44 rfl (lv_at hl 1 rfl) ?_
          refine q_get (v := .ref (m0 + 10)) hx hb hts hin4 hown hK fo rfl 2 (by decide) (hts (.fieldLink RX4 16 "PuddingstoneLineModel" "values" "[[I") (by decide +kernel)) (fun _ h9 => h9) rfl dX4_where_45 ?_
          refine lv_iload_n hx hb dX4_where_48 rfl (lv_at hl 3 rfl) ?_
          refine q_aald hx hb hK 5 rfl rfl fv k2 (rfl) (by omega) (by decide) (b := m0 + 11 + k2) rfl dX4_where_49 ?_
          refine lv_iload hx hb dX4_where_50 (lv_at hl 0 rfl) ?_
          refine q_iald hx hb hK fg i (rfl) (by omega) (by decide) dX4_where_52 ?_
          refine W.eq (g2 := F0 m 53 ls [.int (nI 0), .int (nI i), .ref (m0 + 2 + k1)]) rfl ?_
          refine lv_iload_n hx hb dX4_where_53 rfl (lv_at hl 4 rfl) ?_
          refine lv_iload hx hb dX4_where_54 (lv_at hl 5 rfl) ?_
          refine vp_callSi (va_runS (As := [.int (nI 0), .int x3, .int x4]) (rest := [.int (nI i), .ref (m0 + 2 + k1)]) ⟨hx, hb, hml, hown, hts⟩ (conX4_isIn l D T (nI 0) x3 x4) (va_cwS 3 hts gX4_where_X4_isIn rfl rfl rfl (by decide +kernel) ⟨Nat.le_of_ble_eq_true rfl, Nat.le_of_ble_eq_true rfl⟩) (preS hK trivial) rfl rfl hl.1 rfl (lv_room (Nat.le_of_ble_eq_true rfl)) dX4_where_56 ⟨Nat.le_of_ble_eq_true rfl, Nat.le_of_ble_eq_true rfl⟩).run (fun r4 hr4 => ?_)
          rw [hr4]
          refine q_zast hx hb hK fr i (rfl) (by omega) (by decide) (nar_inM _ _ _) hS (hA _ (by omega)) dX4_where_59 (fun H1 locs1 hw9 hz oq hS => ?_)
          replace fo := fo.ne oq (by omega)
          replace fs := fs.ne oq (by omega)
          replace fv := fv.ne oq (by omega)
          replace fg := fg.ne oq (by omega)
          have fr := hw9
          refine lv_iinc (v := nI (i + 1)) (lv' := [(5, .int (nI (i + 1))), (0, .ref m0), (1, .int (nI k1)), (2, .int (nI k2)), (3, .int x3), (4, .int x4)]) hx hb dX4_where_60 hl (k := 0) rfl (inc_1 _) (by decide) rfl (fun ls hl => ?_)
          refine lv_goto (tgt := 28) hx hb dX4_where_63 (by decide) ?_
          have e5 : (eN (T 0) 201 (upd (rwI (inM (nI 0) x3 x4) i) i (inM (nI 0) x3 x4))) = (eN (T 0) 201 (rwI (inM (nI 0) x3 x4) (i + 1))) := by (rw [rwI_s])
          exact hnext _ _ _ ⟨hS, lv_sub hl [0, 1, 2, 3, 4, 5] rfl, fo, fs, fv, (by rw [← e5]; exact fr), fg⟩
      · skip
        intro H locs ls hin9
        obtain ⟨hS, hl, fo, fs, fv, fr, fg⟩ := hin9
        refine lv_iload hx hb dX4_where_28 (lv_at hl 0 rfl) ?_
        refine lv_sipush (v := nI 201) hx hb dX4_where_30 (by decide) ?_
        refine lv_icmp_ge (tgt := 66) hx hb dX4_where_33 (by decide) (fun c33 => ?_) (fun c33 => ?_)
        · skip
          have c33 : 201 ≤ 201 := (nc_le (a := 201) (b := 201) (by omega) (by omega)).mp c33
          replace fr := fr.outN (g := fun _ => inM (nI 0) x3 x4) (fun k hk => if_pos hk)
          refine lv_aload_n hx hb dX4_where_66 rfl (lv_at hl 1 rfl) ?_
          refine q_get (v := .ref (m0 + 1)) hx hb hts hin4 hown hK fo rfl 1 (by decide) (hts (.fieldLink RX4 11 "PuddingstoneLineModel" "sets" "[[Z") (by decide +kernel)) (fun _ h9 => h9) rfl dX4_where_67 ?_
          refine lv_iload_n hx hb dX4_where_70 rfl (lv_at hl 2 rfl) ?_
          refine q_aald hx hb hK 4 rfl rfl fs k1 (rfl) (by omega) (by decide) (b := m0 + 2 + k1) rfl dX4_where_71 ?_
          refine vp_callSi (va_runS (As := [.ref (m0 + 2 + k1)]) (rest := []) ⟨hx, hb, hml, hown, hts⟩ (conX4_count l D T (m0 + 2 + k1) (inM (nI 0) x3 x4)) (va_cwS 1 hts gX4_where_X4_count rfl rfl rfl (by decide +kernel) ⟨Nat.le_of_ble_eq_true rfl, Nat.le_of_ble_eq_true rfl⟩) (preS hK fr) rfl rfl hl.1 rfl (lv_room (Nat.le_of_ble_eq_true rfl)) dX4_where_72 ⟨Nat.le_of_ble_eq_true rfl, Nat.le_of_ble_eq_true rfl⟩).run (fun r6 hr6 => ?_)
          rw [hr6]
          have ht9 : tw_where (nI k1) (nI k2) x3 x4 = nI 0 := by unfold tw_where; rw [if_neg c9, if_neg c16]
          exact W.iret (v := cntc (inM (nI 0) x3 x4) 201) hx hb hr (fun t ht _ => ⟨⟨cntc (inM (nI 0) x3 x4) 201, (), rfl, by intro _; rfl, by dsimp only; rw [ht]; exact (by rw [ht9]; exact ⟨_, _, fo⟩)⟩, hS.F ht⟩) hS.2.2 dX4_where_75
        · skip
          have c33 : ¬ (201 ≤ 201) := fun q9 => c33 ((nc_le (a := 201) (b := 201) (by omega) (by omega)).mpr q9)
          omega
    · skip
      refine lv_aload_n hx hb dX4_where_19 rfl (lv_at hl 0 rfl) ?_
      refine lv_iconst (v := nI 1) hx hb dX4_where_20 (by decide) ?_
      refine va_calli (va_runV (As := [.int (nI 1)]) (rest := []) ⟨hx, hb, hml, hown, hts⟩ (conX4_no l D T m0 (nI 0) (nI 1) (.ref (m0 + 1)) (.ref (m0 + 10))) (cwV 1 hts gX4_where_X4_no rfl rfl rfl (by decide +kernel) ⟨Nat.le_of_ble_eq_true rfl, Nat.le_of_ble_eq_true rfl⟩) (preV hK hw.o rfl hw.o) rfl rfl hl.1 rfl (lv_room (Nat.le_of_ble_eq_true rfl)) dX4_where_21 ⟨Nat.le_of_ble_eq_true rfl, Nat.le_of_ble_eq_true rfl⟩) hS (fun q _ h9 => (hA q (by have h8 : q = m0 := h9; omega))) (fun q h9 => (hA q (by have h8 : q = m0 := h9; omega))) (fun r u t H1 locs1 ht hvm hw9 hB hz1 hk1 hS => ?_)
      try dsimp only at hB
      rw [ht] at hB
      rw [hw9]
      replace hw := hw.setK hB hk1
      have ht9 : tw_where (nI k1) x2 x3 x4 = nI 1 := by unfold tw_where; rw [if_neg c9, if_pos c16]
      exact W.iret (v := nI 0) hx hb hr (fun t ht _ => ⟨⟨nI 0, (), rfl, by exact fun h9 => absurd (ht9.symm.trans h9) (by decide), by dsimp only; rw [ht]; exact (by rw [ht9]; exact ⟨_, _, hw.o⟩)⟩, hS.F ht⟩) hS.2.2 dX4_where_24

set_option maxHeartbeats 4000000 in
set_option maxRecDepth 100000 in
theorem conX4_span (l : Launch) (D : va_G) (T : Nat → ClassId) (sz m0 : Nat) (th x1 x2 x3 x4 x5 : Int32) (hv : vp_nar .boolean x5 = x5) : Met l yX4_span wsX4_span ({ frames := 2, cells := 0, slots := 0, locals := 47 }) (cP D T [.ref m0, .int x1, .int x2, .int x3, .int x4, .int x5] (fun H => H.size = sz ∧ MF D T m0 th H)) (va_Qi (fun (r : Int32) (_ : Unit) => tw_span x1 x2 x3 x4 x5 = nI 0 → r = spV x2 x3 x4 x5) (fun _ t => MT D m0 (tw_span x1 x2 x3 x4 x5) t.heap) (MA m0 sz)) 0 0 (MA m0 sz) := by
  refine Met.ofW (cc := cX4_span) (maxL := 8) (ret := (some .int)) (by decide) rfl ?_
  intro p e s m args below meth c s₁ B hml hv9
  obtain ⟨rfl, hK, hsz, hw⟩ := hv9
  have hx := B.exec
  have hb := B.bytes
  have hr := B.returns
  have hts := atoms_spec (ws := wsX4_span) B.pre
  have hown : s.vm.findClass RX4 = some m.cls := findClass_of_methodNamed B.named
  have hlocks := B.notSynchronized
  have hin4 : ∀ w ∈ wsX40, w ∈ wsX4_span := by decide +kernel
  generalize hAe : (MA m0 sz) = A
  have hA : ∀ q : Nat, ((m0 ≤ q ∧ q < m0 + 16) ∨ s.heap.size ≤ q) → A q := fun q h9 => by subst hAe; show (m0 ≤ q ∧ q < m0 + 16) ∨ sz ≤ q; omega
  have hS : va_S A s.heap s.heap [] := va_S.rf
  have hl := lv_entry ([.ref m0, .int x1, .int x2, .int x3, .int x4, .int x5]) (n := 8) (Nat.le_of_ble_eq_true rfl)
  rw [lg_entry_eq]
  generalize (lg_sl ([.ref m0, .int x1, .int x2, .int x3, .int x4, .int x5]) ++ List.replicate (8 - (lg_sl ([.ref m0, .int x1, .int x2, .int x3, .int x4, .int x5])).length) Slot.unset).toArray = ls at hl ⊢
  have hl : lv_has ls 8 [(0, .ref m0), (1, .int x1), (2, .int x2), (3, .int x3), (4, .int x4), (5, .int x5)] := hl
  refine lv_aload_n hx hb dX4_span_0 rfl (lv_at hl 0 rfl) ?_
  refine lv_iconst (v := nI 0) hx hb dX4_span_1 (by decide) ?_
  refine q_put (v := .int (nI 0)) hx hb hts hin4 tyX4 tyX4_ok nmX4 hown hK hw.o rfl 0 (by decide) (hts (.fieldLink RX4 19 "PuddingstoneLineModel" "thrown" "I") (by decide +kernel)) (fun _ h9 => h9) rfl rfl rfl (Nat.le_of_ble_eq_true rfl) hS (hA _ (by omega)) dX4_span_2 (fun H1 locs1 hw9 oq hS => ?_)
  replace hw := hw.setO hw9 oq
  refine lv_iload_n hx hb dX4_span_5 rfl (lv_at hl 1 rfl) ?_
  refine vp_callSi (va_runS (As := [.int x1]) (rest := []) ⟨hx, hb, hml, hown, hts⟩ (conX4_isSet l D T x1) (va_cwS 1 hts gX4_span_X4_isSet rfl rfl rfl (by decide +kernel) ⟨Nat.le_of_ble_eq_true rfl, Nat.le_of_ble_eq_true rfl⟩) (preS hK trivial) rfl rfl hl.1 rfl (lv_room (Nat.le_of_ble_eq_true rfl)) dX4_span_6 ⟨Nat.le_of_ble_eq_true rfl, Nat.le_of_ble_eq_true rfl⟩).run (fun r1 hr1 => ?_)
  rw [hr1]
  refine lv_if_ne (tgt := 18) hx hb dX4_span_9 (by decide) (fun c9 => ?_) (fun c9 => ?_)
  · skip
    obtain ⟨k1, hk1, rfl⟩ := inM_ok (n := 7) (by decide) c9
    refine lv_iload_n hx hb dX4_span_18 rfl (lv_at hl 2 rfl) ?_
    refine lv_iload_n hx hb dX4_span_19 rfl (lv_at hl 3 rfl) ?_
    refine lv_iload hx hb dX4_span_20 (lv_at hl 4 rfl) ?_
    refine vp_callSi (va_runS (As := [.int x2, .int x3, .int x4]) (rest := []) ⟨hx, hb, hml, hown, hts⟩ (conX4_isSpan l D T x2 x3 x4) (va_cwS 3 hts gX4_span_X4_isSpan rfl rfl rfl (by decide +kernel) ⟨Nat.le_of_ble_eq_true rfl, Nat.le_of_ble_eq_true rfl⟩) (preS hK trivial) rfl rfl hl.1 rfl (lv_room (Nat.le_of_ble_eq_true rfl)) dX4_span_22 ⟨Nat.le_of_ble_eq_true rfl, Nat.le_of_ble_eq_true rfl⟩).run (fun r2 hr2 => ?_)
    rw [hr2]
    refine lv_if_ne (tgt := 34) hx hb dX4_span_25 (by decide) (fun c25 => ?_) (fun c25 => ?_)
    · skip
      obtain ⟨a, b, ee, hab, hb9, he, rfl, rfl, rfl⟩ := spanM_ok c25
      have fo := hw.o
      have fs := hw.s
      have fr := hw.f k1 (by omega)
      refine lv_iconst (v := nI 0) hx hb dX4_span_34 (by decide) ?_
      refine lv_istore (lv' := [(6, .int (nI 0)), (0, .ref m0), (1, .int (nI k1)), (2, .int (nI a)), (3, .int (nI b)), (4, .int (nI ee)), (5, .int x5)]) hx hb dX4_span_35 hl (by decide) rfl (fun ls hl => ?_)
      refine lv_iconst (v := nI 0) hx hb dX4_span_37 (by decide) ?_
      refine lv_istore (lv' := [(7, .int (nI 0)), (6, .int (nI 0)), (0, .ref m0), (1, .int (nI k1)), (2, .int (nI a)), (3, .int (nI b)), (4, .int (nI ee)), (5, .int x5)]) hx hb dX4_span_38 hl (by decide) rfl (fun ls hl => ?_)
      refine q_for (fun (i : Nat) (H : Heap) (locs : List Loc) (ls : Array Slot) => va_S A s.heap H locs ∧ lv_has ls 8 [(7, .int (nI i)), (6, .int (spC x5 a b ee i)), (0, .ref m0), (1, .int (nI k1)), (2, .int (nI a)), (3, .int (nI b)), (4, .int (nI ee)), (5, .int x5)] ∧ pAt D H m0 (eO 4 [.int (nI 0), .ref (m0 + 1), .ref (m0 + 10)]) ∧ pAt D H (m0 + 1) (eR (T 4) 8 (fun i => some (m0 + 2 + i))) ∧ pAt D H (m0 + 2 + k1) (eN (T 0) 201 (spR x5 a b ee i))) (N := 201) 0 (by omega) ?_ ?_ ?_
      · skip
        have e3 : nI 0 = spC x5 a b ee 0 := by exact (spC_0 x5 a b ee).symm
        have e4 : (eN (T 0) 201 zr0) = (eN (T 0) 201 (spR x5 a b ee 0)) := by (rw [spR_0])
        exact ⟨hS, lv_sub (lv_ex hl 1 rfl (congrArg Value.int e3)) [0, 1, 2, 3, 4, 5, 6, 7] rfl, fo, fs, (by rw [← e4]; exact fr)⟩
      · skip
        intro i H locs ls hi9 hin9 hnext
        obtain ⟨hS, hl, fo, fs, fr⟩ := hin9
        refine lv_iload hx hb dX4_span_40 (lv_at hl 0 rfl) ?_
        refine lv_sipush (v := nI 201) hx hb dX4_span_42 (by decide) ?_
        refine lv_icmp_ge (tgt := 97) hx hb dX4_span_45 (by decide) (fun c45 => ?_) (fun c45 => ?_)
        · skip
          have c45 : 201 ≤ i := (nc_le (a := 201) (b := i) (by omega) (by omega)).mp c45
          omega
        · skip
          have c45 : ¬ (201 ≤ i) := fun q9 => c45 ((nc_le (a := 201) (b := i) (by omega) (by omega)).mpr q9)
          refine lv_iload hx hb dX4_span_48 (lv_at hl 0 rfl) ?_
          refine lv_iload_n hx hb dX4_span_50 rfl (lv_at hl 4 rfl) ?_
          refine lv_iload_n hx hb dX4_span_51 rfl (lv_at hl 5 rfl) ?_
          refine lv_iload hx hb dX4_span_52 (lv_at hl 6 rfl) ?_
          refine vp_callSi (va_runS (As := [.int (nI i), .int (nI a), .int (nI b), .int (nI ee)]) (rest := []) ⟨hx, hb, hml, hown, hts⟩ (conX4_isWithin l D T i a b ee (by omega) (by omega) (by omega) (by omega)) (va_cwS 4 hts gX4_span_X4_isWithin rfl rfl rfl (by decide +kernel) ⟨Nat.le_of_ble_eq_true rfl, Nat.le_of_ble_eq_true rfl⟩) (preS hK trivial) rfl rfl hl.1 rfl (lv_room (Nat.le_of_ble_eq_true rfl)) dX4_span_54 ⟨Nat.le_of_ble_eq_true rfl, Nat.le_of_ble_eq_true rfl⟩).run (fun r5 hr5 => ?_)
          rw [hr5]
          refine lv_if_eq (tgt := 91) hx hb dX4_span_57 (by decide) (fun c57 => ?_) (fun c57 => ?_)
          · skip
            refine lv_iinc (v := nI (i + 1)) (lv' := [(7, .int (nI (i + 1))), (6, .int (spC x5 a b ee i)), (0, .ref m0), (1, .int (nI k1)), (2, .int (nI a)), (3, .int (nI b)), (4, .int (nI ee)), (5, .int x5)]) hx hb dX4_span_91 hl (k := 0) rfl (inc_1 _) (by decide) rfl (fun ls hl => ?_)
            refine lv_goto (tgt := 40) hx hb dX4_span_94 (by decide) ?_
            have e6 : spC x5 a b ee i = spC x5 a b ee (i + 1) := by first | exact (spC_a c57).symm | exact (spC_b c57 c71).symm | exact (spC_c c57 c71).symm
            have e7 : (eN (T 0) 201 (spR x5 a b ee i)) = (eN (T 0) 201 (spR x5 a b ee (i + 1))) := by first | (rw [spR_a c57]; done) | (rw [spR_b c57 c71]; done) | (rw [spR_c c57]; done)
            exact hnext _ _ _ ⟨hS, lv_sub (lv_ex hl 1 rfl (congrArg Value.int e6)) [0, 1, 2, 3, 4, 5, 6, 7] rfl, fo, fs, (by rw [← e7]; exact fr)⟩
          · skip
            refine lv_aload_n hx hb dX4_span_60 rfl (lv_at hl 2 rfl) ?_
            refine q_get (v := .ref (m0 + 1)) hx hb hts hin4 hown hK fo rfl 1 (by decide) (hts (.fieldLink RX4 11 "PuddingstoneLineModel" "sets" "[[Z") (by decide +kernel)) (fun _ h9 => h9) rfl dX4_span_61 ?_
            refine lv_iload_n hx hb dX4_span_64 rfl (lv_at hl 3 rfl) ?_
            refine q_aald hx hb hK 4 rfl rfl fs k1 (rfl) (by omega) (by decide) (b := m0 + 2 + k1) rfl dX4_span_65 ?_
            refine lv_iload hx hb dX4_span_66 (lv_at hl 0 rfl) ?_
            refine q_zald hx hb hK fr i (rfl) (by omega) (by decide) dX4_span_68 ?_
            refine lv_iload hx hb dX4_span_69 (lv_at hl 7 rfl) ?_
            refine lv_icmp_ne (tgt := 77) hx hb dX4_span_71 (by decide) (fun c71 => ?_) (fun c71 => ?_)
            · skip
              refine lv_aload_n hx hb dX4_span_77 rfl (lv_at hl 2 rfl) ?_
              refine q_get (v := .ref (m0 + 1)) hx hb hts hin4 hown hK fo rfl 1 (by decide) (hts (.fieldLink RX4 11 "PuddingstoneLineModel" "sets" "[[Z") (by decide +kernel)) (fun _ h9 => h9) rfl dX4_span_78 ?_
              refine lv_iload_n hx hb dX4_span_81 rfl (lv_at hl 3 rfl) ?_
              refine q_aald hx hb hK 4 rfl rfl fs k1 (rfl) (by omega) (by decide) (b := m0 + 2 + k1) rfl dX4_span_82 ?_
              refine lv_iload hx hb dX4_span_83 (lv_at hl 0 rfl) ?_
              refine lv_iload hx hb dX4_span_85 (lv_at hl 7 rfl) ?_
              refine q_zast hx hb hK fr i (rfl) (by omega) (by decide) (hv) hS (hA _ (by omega)) dX4_span_87 (fun H1 locs1 hw9 hz oq hS => ?_)
              replace fo := fo.ne oq (by omega)
              replace fs := fs.ne oq (by omega)
              have fr := hw9
              refine lv_iinc (v := (spC x5 a b ee i) + 1) (lv' := [(6, .int ((spC x5 a b ee i) + 1)), (7, .int (nI i)), (0, .ref m0), (1, .int (nI k1)), (2, .int (nI a)), (3, .int (nI b)), (4, .int (nI ee)), (5, .int x5)]) hx hb dX4_span_88 hl (k := 1) rfl (rfl) (by decide) rfl (fun ls hl => ?_)
              refine lv_iinc (v := nI (i + 1)) (lv' := [(7, .int (nI (i + 1))), (6, .int ((spC x5 a b ee i) + 1)), (0, .ref m0), (1, .int (nI k1)), (2, .int (nI a)), (3, .int (nI b)), (4, .int (nI ee)), (5, .int x5)]) hx hb dX4_span_91 hl (k := 1) rfl (inc_1 _) (by decide) rfl (fun ls hl => ?_)
              refine lv_goto (tgt := 40) hx hb dX4_span_94 (by decide) ?_
              have e8 : (spC x5 a b ee i) + 1 = spC x5 a b ee (i + 1) := by first | exact (spC_a c57).symm | exact (spC_b c57 c71).symm | exact (spC_c c57 c71).symm
              have e9 : (eN (T 0) 201 (upd (spR x5 a b ee i) i x5)) = (eN (T 0) 201 (spR x5 a b ee (i + 1))) := by first | (rw [spR_a c57]; done) | (rw [spR_b c57 c71]; done) | (rw [spR_c c57]; done)
              exact hnext _ _ _ ⟨hS, lv_sub (lv_ex hl 1 rfl (congrArg Value.int e8)) [0, 1, 2, 3, 4, 5, 6, 7] rfl, fo, fs, (by rw [← e9]; exact fr)⟩
            · skip
              refine lv_goto (tgt := 91) hx hb dX4_span_74 (by decide) ?_
              refine lv_iinc (v := nI (i + 1)) (lv' := [(7, .int (nI (i + 1))), (6, .int (spC x5 a b ee i)), (0, .ref m0), (1, .int (nI k1)), (2, .int (nI a)), (3, .int (nI b)), (4, .int (nI ee)), (5, .int x5)]) hx hb dX4_span_91 hl (k := 0) rfl (inc_1 _) (by decide) rfl (fun ls hl => ?_)
              refine lv_goto (tgt := 40) hx hb dX4_span_94 (by decide) ?_
              have e10 : spC x5 a b ee i = spC x5 a b ee (i + 1) := by first | exact (spC_a c57).symm | exact (spC_b c57 c71).symm | exact (spC_c c57 c71).symm
              have e11 : (eN (T 0) 201 (spR x5 a b ee i)) = (eN (T 0) 201 (spR x5 a b ee (i + 1))) := by first | (rw [spR_a c57]; done) | (rw [spR_b c57 c71]; done) | (rw [spR_c c57]; done)
              exact hnext _ _ _ ⟨hS, lv_sub (lv_ex hl 1 rfl (congrArg Value.int e10)) [0, 1, 2, 3, 4, 5, 6, 7] rfl, fo, fs, (by rw [← e11]; exact fr)⟩
      · skip
        intro H locs ls hin9
        obtain ⟨hS, hl, fo, fs, fr⟩ := hin9
        refine lv_iload hx hb dX4_span_40 (lv_at hl 0 rfl) ?_
        refine lv_sipush (v := nI 201) hx hb dX4_span_42 (by decide) ?_
        refine lv_icmp_ge (tgt := 97) hx hb dX4_span_45 (by decide) (fun c45 => ?_) (fun c45 => ?_)
        · skip
          have c45 : 201 ≤ 201 := (nc_le (a := 201) (b := 201) (by omega) (by omega)).mp c45
          refine lv_iload hx hb dX4_span_97 (lv_at hl 1 rfl) ?_
          have ht9 : tw_span (nI k1) (nI a) (nI b) (nI ee) x5 = nI 0 := by unfold tw_span; rw [if_neg c9, if_neg c25]
          exact W.iret (v := spC x5 a b ee 201) hx hb hr (fun t ht _ => ⟨⟨spC x5 a b ee 201, (), rfl, by intro _; exact spV_e hab hb9 he, by dsimp only; rw [ht]; exact (by rw [ht9]; exact ⟨_, _, fo⟩)⟩, hS.F ht⟩) hS.2.2 dX4_span_99
        · skip
          have c45 : ¬ (201 ≤ 201) := fun q9 => c45 ((nc_le (a := 201) (b := 201) (by omega) (by omega)).mpr q9)
          omega
    · skip
      refine lv_aload_n hx hb dX4_span_28 rfl (lv_at hl 0 rfl) ?_
      refine lv_iconst (v := nI 2) hx hb dX4_span_29 (by decide) ?_
      refine va_calli (va_runV (As := [.int (nI 2)]) (rest := []) ⟨hx, hb, hml, hown, hts⟩ (conX4_no l D T m0 (nI 0) (nI 2) (.ref (m0 + 1)) (.ref (m0 + 10))) (cwV 1 hts gX4_span_X4_no rfl rfl rfl (by decide +kernel) ⟨Nat.le_of_ble_eq_true rfl, Nat.le_of_ble_eq_true rfl⟩) (preV hK hw.o rfl hw.o) rfl rfl hl.1 rfl (lv_room (Nat.le_of_ble_eq_true rfl)) dX4_span_30 ⟨Nat.le_of_ble_eq_true rfl, Nat.le_of_ble_eq_true rfl⟩) hS (fun q _ h9 => (hA q (by have h8 : q = m0 := h9; omega))) (fun q h9 => (hA q (by have h8 : q = m0 := h9; omega))) (fun r u t H1 locs1 ht hvm hw9 hB hz1 hk1 hS => ?_)
      try dsimp only at hB
      rw [ht] at hB
      rw [hw9]
      replace hw := hw.setK hB hk1
      have ht9 : tw_span (nI k1) x2 x3 x4 x5 = nI 2 := by unfold tw_span; rw [if_neg c9, if_pos c25]
      exact W.iret (v := nI 0) hx hb hr (fun t ht _ => ⟨⟨nI 0, (), rfl, by exact fun h9 => absurd (ht9.symm.trans h9) (by decide), by dsimp only; rw [ht]; exact (by rw [ht9]; exact ⟨_, _, hw.o⟩)⟩, hS.F ht⟩) hS.2.2 dX4_span_33
  · skip
    refine lv_aload_n hx hb dX4_span_12 rfl (lv_at hl 0 rfl) ?_
    refine lv_iconst (v := nI 1) hx hb dX4_span_13 (by decide) ?_
    refine va_calli (va_runV (As := [.int (nI 1)]) (rest := []) ⟨hx, hb, hml, hown, hts⟩ (conX4_no l D T m0 (nI 0) (nI 1) (.ref (m0 + 1)) (.ref (m0 + 10))) (cwV 1 hts gX4_span_X4_no rfl rfl rfl (by decide +kernel) ⟨Nat.le_of_ble_eq_true rfl, Nat.le_of_ble_eq_true rfl⟩) (preV hK hw.o rfl hw.o) rfl rfl hl.1 rfl (lv_room (Nat.le_of_ble_eq_true rfl)) dX4_span_14 ⟨Nat.le_of_ble_eq_true rfl, Nat.le_of_ble_eq_true rfl⟩) hS (fun q _ h9 => (hA q (by have h8 : q = m0 := h9; omega))) (fun q h9 => (hA q (by have h8 : q = m0 := h9; omega))) (fun r u t H1 locs1 ht hvm hw9 hB hz1 hk1 hS => ?_)
    try dsimp only at hB
    rw [ht] at hB
    rw [hw9]
    replace hw := hw.setK hB hk1
    have ht9 : tw_span x1 x2 x3 x4 x5 = nI 1 := by unfold tw_span; rw [if_pos c9]
    exact W.iret (v := nI 0) hx hb hr (fun t ht _ => ⟨⟨nI 0, (), rfl, by exact fun h9 => absurd (ht9.symm.trans h9) (by decide), by dsimp only; rw [ht]; exact (by rw [ht9]; exact ⟨_, _, hw.o⟩)⟩, hS.F ht⟩) hS.2.2 dX4_span_17

set_option maxHeartbeats 4000000 in
set_option maxRecDepth 100000 in
theorem conX4_raise (l : Launch) (D : va_G) (T : Nat → ClassId) (sz m0 : Nat) (th x1 x2 x3 x4 x5 : Int32) : Met l yX4_raise wsX4_raise ({ frames := 2, cells := 0, slots := 0, locals := 47 }) (cP D T [.ref m0, .int x1, .int x2, .int x3, .int x4, .int x5] (fun H => H.size = sz ∧ MF D T m0 th H)) (va_Qi (fun (r : Int32) (_ : Unit) => tw_raise x1 x2 x3 x4 x5 = nI 0 → r = raV x2 x3 x4 x5) (fun _ t => MT D m0 (tw_raise x1 x2 x3 x4 x5) t.heap) (MA m0 sz)) 0 0 (MA m0 sz) := by
  refine Met.ofW (cc := cX4_raise) (maxL := 8) (ret := (some .int)) (by decide) rfl ?_
  intro p e s m args below meth c s₁ B hml hv9
  obtain ⟨rfl, hK, hsz, hw⟩ := hv9
  have hx := B.exec
  have hb := B.bytes
  have hr := B.returns
  have hts := atoms_spec (ws := wsX4_raise) B.pre
  have hown : s.vm.findClass RX4 = some m.cls := findClass_of_methodNamed B.named
  have hlocks := B.notSynchronized
  have hin4 : ∀ w ∈ wsX40, w ∈ wsX4_raise := by decide +kernel
  generalize hAe : (MA m0 sz) = A
  have hA : ∀ q : Nat, ((m0 ≤ q ∧ q < m0 + 16) ∨ s.heap.size ≤ q) → A q := fun q h9 => by subst hAe; show (m0 ≤ q ∧ q < m0 + 16) ∨ sz ≤ q; omega
  have hS : va_S A s.heap s.heap [] := va_S.rf
  have hl := lv_entry ([.ref m0, .int x1, .int x2, .int x3, .int x4, .int x5]) (n := 8) (Nat.le_of_ble_eq_true rfl)
  rw [lg_entry_eq]
  generalize (lg_sl ([.ref m0, .int x1, .int x2, .int x3, .int x4, .int x5]) ++ List.replicate (8 - (lg_sl ([.ref m0, .int x1, .int x2, .int x3, .int x4, .int x5])).length) Slot.unset).toArray = ls at hl ⊢
  have hl : lv_has ls 8 [(0, .ref m0), (1, .int x1), (2, .int x2), (3, .int x3), (4, .int x4), (5, .int x5)] := hl
  refine lv_aload_n hx hb dX4_raise_0 rfl (lv_at hl 0 rfl) ?_
  refine lv_iconst (v := nI 0) hx hb dX4_raise_1 (by decide) ?_
  refine q_put (v := .int (nI 0)) hx hb hts hin4 tyX4 tyX4_ok nmX4 hown hK hw.o rfl 0 (by decide) (hts (.fieldLink RX4 19 "PuddingstoneLineModel" "thrown" "I") (by decide +kernel)) (fun _ h9 => h9) rfl rfl rfl (Nat.le_of_ble_eq_true rfl) hS (hA _ (by omega)) dX4_raise_2 (fun H1 locs1 hw9 oq hS => ?_)
  replace hw := hw.setO hw9 oq
  refine lv_iload_n hx hb dX4_raise_5 rfl (lv_at hl 1 rfl) ?_
  refine vp_callSi (va_runS (As := [.int x1]) (rest := []) ⟨hx, hb, hml, hown, hts⟩ (conX4_isFunction l D T x1) (va_cwS 1 hts gX4_raise_X4_isFunction rfl rfl rfl (by decide +kernel) ⟨Nat.le_of_ble_eq_true rfl, Nat.le_of_ble_eq_true rfl⟩) (preS hK trivial) rfl rfl hl.1 rfl (lv_room (Nat.le_of_ble_eq_true rfl)) dX4_raise_6 ⟨Nat.le_of_ble_eq_true rfl, Nat.le_of_ble_eq_true rfl⟩).run (fun r1 hr1 => ?_)
  rw [hr1]
  refine lv_if_ne (tgt := 18) hx hb dX4_raise_9 (by decide) (fun c9 => ?_) (fun c9 => ?_)
  · skip
    obtain ⟨k1, hk1, rfl⟩ := inM_ok (n := 4) (by decide) c9
    refine lv_iload_n hx hb dX4_raise_18 rfl (lv_at hl 2 rfl) ?_
    refine lv_iload_n hx hb dX4_raise_19 rfl (lv_at hl 3 rfl) ?_
    refine lv_iload hx hb dX4_raise_20 (lv_at hl 4 rfl) ?_
    refine vp_callSi (va_runS (As := [.int x2, .int x3, .int x4]) (rest := []) ⟨hx, hb, hml, hown, hts⟩ (conX4_isSpan l D T x2 x3 x4) (va_cwS 3 hts gX4_raise_X4_isSpan rfl rfl rfl (by decide +kernel) ⟨Nat.le_of_ble_eq_true rfl, Nat.le_of_ble_eq_true rfl⟩) (preS hK trivial) rfl rfl hl.1 rfl (lv_room (Nat.le_of_ble_eq_true rfl)) dX4_raise_22 ⟨Nat.le_of_ble_eq_true rfl, Nat.le_of_ble_eq_true rfl⟩).run (fun r2 hr2 => ?_)
    rw [hr2]
    refine lv_if_eq (tgt := 42) hx hb dX4_raise_25 (by decide) (fun c25 => ?_) (fun c25 => ?_)
    · skip
      refine lv_aload_n hx hb dX4_raise_42 rfl (lv_at hl 0 rfl) ?_
      refine lv_iconst (v := nI 2) hx hb dX4_raise_43 (by decide) ?_
      refine va_calli (va_runV (As := [.int (nI 2)]) (rest := []) ⟨hx, hb, hml, hown, hts⟩ (conX4_no l D T m0 (nI 0) (nI 2) (.ref (m0 + 1)) (.ref (m0 + 10))) (cwV 1 hts gX4_raise_X4_no rfl rfl rfl (by decide +kernel) ⟨Nat.le_of_ble_eq_true rfl, Nat.le_of_ble_eq_true rfl⟩) (preV hK hw.o rfl hw.o) rfl rfl hl.1 rfl (lv_room (Nat.le_of_ble_eq_true rfl)) dX4_raise_44 ⟨Nat.le_of_ble_eq_true rfl, Nat.le_of_ble_eq_true rfl⟩) hS (fun q _ h9 => (hA q (by have h8 : q = m0 := h9; omega))) (fun q h9 => (hA q (by have h8 : q = m0 := h9; omega))) (fun r u t H1 locs1 ht hvm hw9 hB hz1 hk1 hS => ?_)
      try dsimp only at hB
      rw [ht] at hB
      rw [hw9]
      replace hw := hw.setK hB hk1
      have ht9 : tw_raise (nI k1) x2 x3 x4 x5 = nI 2 := by unfold tw_raise; rw [if_neg c9, if_pos c25]
      exact W.iret (v := nI 0) hx hb hr (fun t ht _ => ⟨⟨nI 0, (), rfl, by exact fun h9 => absurd (ht9.symm.trans h9) (by decide), by dsimp only; rw [ht]; exact (by rw [ht9]; exact ⟨_, _, hw.o⟩)⟩, hS.F ht⟩) hS.2.2 dX4_raise_47
    · skip
      obtain ⟨a, b, ee, hab, hb9, he, rfl, rfl, rfl⟩ := spanM_ok c25
      refine lv_iload hx hb dX4_raise_28 (lv_at hl 5 rfl) ?_
      refine lv_sipush (v := (-1000)) hx hb dX4_raise_30 (by decide) ?_
      refine lv_sipush (v := nI 1000) hx hb dX4_raise_33 (by decide) ?_
      refine vp_callSi (va_runS (As := [.int x5, .int (-1000), .int (nI 1000)]) (rest := []) ⟨hx, hb, hml, hown, hts⟩ (conX4_isIn l D T x5 (-1000) (nI 1000)) (va_cwS 3 hts gX4_raise_X4_isIn rfl rfl rfl (by decide +kernel) ⟨Nat.le_of_ble_eq_true rfl, Nat.le_of_ble_eq_true rfl⟩) (preS hK trivial) rfl rfl hl.1 rfl (lv_room (Nat.le_of_ble_eq_true rfl)) dX4_raise_36 ⟨Nat.le_of_ble_eq_true rfl, Nat.le_of_ble_eq_true rfl⟩).run (fun r3 hr3 => ?_)
      rw [hr3]
      refine lv_if_ne (tgt := 48) hx hb dX4_raise_39 (by decide) (fun c39 => ?_) (fun c39 => ?_)
      · skip
        have fo := hw.o
        have fv := hw.v
        have fr := hw.g k1 (by omega)
        refine lv_aload_n hx hb dX4_raise_48 rfl (lv_at hl 0 rfl) ?_
        refine q_get (v := .ref (m0 + 10)) hx hb hts hin4 hown hK fo rfl 2 (by decide) (hts (.fieldLink RX4 16 "PuddingstoneLineModel" "values" "[[I") (by decide +kernel)) (fun _ h9 => h9) rfl dX4_raise_49 ?_
        refine lv_iload_n hx hb dX4_raise_52 rfl (lv_at hl 1 rfl) ?_
        refine q_aald hx hb hK 5 rfl rfl fv k1 (rfl) (by omega) (by decide) (b := m0 + 11 + k1) rfl dX4_raise_53 ?_
        refine lv_astore (lv' := [(6, .ref (m0 + 11 + k1)), (0, .ref m0), (1, .int (nI k1)), (2, .int (nI a)), (3, .int (nI b)), (4, .int (nI ee)), (5, .int x5)]) hx hb dX4_raise_54 hl (by decide) rfl (fun ls hl => ?_)
        refine lv_iconst (v := nI 0) hx hb dX4_raise_56 (by decide) ?_
        refine lv_istore (lv' := [(7, .int (nI 0)), (6, .ref (m0 + 11 + k1)), (0, .ref m0), (1, .int (nI k1)), (2, .int (nI a)), (3, .int (nI b)), (4, .int (nI ee)), (5, .int x5)]) hx hb dX4_raise_57 hl (by decide) rfl (fun ls hl => ?_)
        refine q_for (fun (i : Nat) (H : Heap) (locs : List Loc) (ls : Array Slot) => va_S A s.heap H locs ∧ lv_has ls 8 [(7, .int (nI i)), (6, .ref (m0 + 11 + k1)), (0, .ref m0), (1, .int (nI k1)), (2, .int (nI a)), (3, .int (nI b)), (4, .int (nI ee)), (5, .int x5)] ∧ pAt D H m0 (eO 4 [.int (nI 0), .ref (m0 + 1), .ref (m0 + 10)]) ∧ pAt D H (m0 + 10) (eR (T 5) 5 (fun i => some (m0 + 11 + i))) ∧ pAt D H (m0 + 11 + k1) (eN (T 1) 201 (raR x5 a b ee i))) (N := 201) 0 (by omega) ?_ ?_ ?_
        · skip
          have e4 : (eN (T 1) 201 zr0) = (eN (T 1) 201 (raR x5 a b ee 0)) := by (rw [raR_0])
          exact ⟨hS, lv_sub hl [0, 1, 2, 3, 4, 5, 6, 7] rfl, fo, fv, (by rw [← e4]; exact fr)⟩
        · skip
          intro i H locs ls hi9 hin9 hnext
          obtain ⟨hS, hl, fo, fv, fr⟩ := hin9
          refine lv_iload hx hb dX4_raise_59 (lv_at hl 0 rfl) ?_
          refine lv_sipush (v := nI 201) hx hb dX4_raise_61 (by decide) ?_
          refine lv_icmp_ge (tgt := 101) hx hb dX4_raise_64 (by decide) (fun c64 => ?_) (fun c64 => ?_)
          · skip
            have c64 : 201 ≤ i := (nc_le (a := 201) (b := i) (by omega) (by omega)).mp c64
            omega
          · skip
            have c64 : ¬ (201 ≤ i) := fun q9 => c64 ((nc_le (a := 201) (b := i) (by omega) (by omega)).mpr q9)
            refine lv_iload hx hb dX4_raise_67 (lv_at hl 0 rfl) ?_
            refine lv_iload_n hx hb dX4_raise_69 rfl (lv_at hl 4 rfl) ?_
            refine lv_iload_n hx hb dX4_raise_70 rfl (lv_at hl 5 rfl) ?_
            refine lv_iload hx hb dX4_raise_71 (lv_at hl 6 rfl) ?_
            refine vp_callSi (va_runS (As := [.int (nI i), .int (nI a), .int (nI b), .int (nI ee)]) (rest := []) ⟨hx, hb, hml, hown, hts⟩ (conX4_isWithin l D T i a b ee (by omega) (by omega) (by omega) (by omega)) (va_cwS 4 hts gX4_raise_X4_isWithin rfl rfl rfl (by decide +kernel) ⟨Nat.le_of_ble_eq_true rfl, Nat.le_of_ble_eq_true rfl⟩) (preS hK trivial) rfl rfl hl.1 rfl (lv_room (Nat.le_of_ble_eq_true rfl)) dX4_raise_73 ⟨Nat.le_of_ble_eq_true rfl, Nat.le_of_ble_eq_true rfl⟩).run (fun r5 hr5 => ?_)
            rw [hr5]
            refine lv_if_eq (tgt := 95) hx hb dX4_raise_76 (by decide) (fun c76 => ?_) (fun c76 => ?_)
            · skip
              refine lv_iinc (v := nI (i + 1)) (lv' := [(7, .int (nI (i + 1))), (6, .ref (m0 + 11 + k1)), (0, .ref m0), (1, .int (nI k1)), (2, .int (nI a)), (3, .int (nI b)), (4, .int (nI ee)), (5, .int x5)]) hx hb dX4_raise_95 hl (k := 0) rfl (inc_1 _) (by decide) rfl (fun ls hl => ?_)
              refine lv_goto (tgt := 59) hx hb dX4_raise_98 (by decide) ?_
              have e6 : (eN (T 1) 201 (raR x5 a b ee i)) = (eN (T 1) 201 (raR x5 a b ee (i + 1))) := by first | (rw [raR_a c76]; done) | (rw [raR_c c76]; done)
              exact hnext _ _ _ ⟨hS, lv_sub hl [0, 1, 2, 3, 4, 5, 6, 7] rfl, fo, fv, (by rw [← e6]; exact fr)⟩
            · skip
              refine lv_aload hx hb dX4_raise_79 (lv_at hl 1 rfl) ?_
              refine lv_iload hx hb dX4_raise_81 (lv_at hl 0 rfl) ?_
              refine lv_aload hx hb dX4_raise_83 (lv_at hl 1 rfl) ?_
              refine lv_iload hx hb dX4_raise_85 (lv_at hl 0 rfl) ?_
              refine q_iald hx hb hK fr i (rfl) (by omega) (by decide) dX4_raise_87 ?_
              refine lv_iload hx hb dX4_raise_88 (lv_at hl 7 rfl) ?_
              refine lv_iadd hx hb dX4_raise_90 ?_
              refine vp_callSi (va_runS (As := [.int (((raR x5 a b ee i) i) + x5)]) (rest := [.int (nI i), .ref (m0 + 11 + k1)]) ⟨hx, hb, hml, hown, hts⟩ (conX4_kept l D T (((raR x5 a b ee i) i) + x5)) (va_cwS 1 hts gX4_raise_X4_kept rfl rfl rfl (by decide +kernel) ⟨Nat.le_of_ble_eq_true rfl, Nat.le_of_ble_eq_true rfl⟩) (preS hK trivial) rfl rfl hl.1 rfl (lv_room (Nat.le_of_ble_eq_true rfl)) dX4_raise_91 ⟨Nat.le_of_ble_eq_true rfl, Nat.le_of_ble_eq_true rfl⟩).run (fun r7 hr7 => ?_)
              rw [hr7]
              refine q_iast hx hb hK fr i (rfl) (by omega) (by decide) hS (hA _ (by omega)) dX4_raise_94 (fun H1 locs1 hw9 hz oq hS => ?_)
              replace fo := fo.ne oq (by omega)
              replace fv := fv.ne oq (by omega)
              have fr := hw9
              refine lv_iinc (v := nI (i + 1)) (lv' := [(7, .int (nI (i + 1))), (6, .ref (m0 + 11 + k1)), (0, .ref m0), (1, .int (nI k1)), (2, .int (nI a)), (3, .int (nI b)), (4, .int (nI ee)), (5, .int x5)]) hx hb dX4_raise_95 hl (k := 0) rfl (inc_1 _) (by decide) rfl (fun ls hl => ?_)
              refine lv_goto (tgt := 59) hx hb dX4_raise_98 (by decide) ?_
              have e8 : (eN (T 1) 201 (upd (raR x5 a b ee i) i (keptM (((raR x5 a b ee i) i) + x5)))) = (eN (T 1) 201 (raR x5 a b ee (i + 1))) := by first | (rw [raR_a c76]; done) | (rw [raR_c c76]; done)
              exact hnext _ _ _ ⟨hS, lv_sub hl [0, 1, 2, 3, 4, 5, 6, 7] rfl, fo, fv, (by rw [← e8]; exact fr)⟩
        · skip
          intro H locs ls hin9
          obtain ⟨hS, hl, fo, fv, fr⟩ := hin9
          refine lv_iload hx hb dX4_raise_59 (lv_at hl 0 rfl) ?_
          refine lv_sipush (v := nI 201) hx hb dX4_raise_61 (by decide) ?_
          refine lv_icmp_ge (tgt := 101) hx hb dX4_raise_64 (by decide) (fun c64 => ?_) (fun c64 => ?_)
          · skip
            have c64 : 201 ≤ 201 := (nc_le (a := 201) (b := 201) (by omega) (by omega)).mp c64
            refine lv_aload hx hb dX4_raise_101 (lv_at hl 1 rfl) ?_
            refine vp_callSi (va_runS (As := [.ref (m0 + 11 + k1)]) (rest := []) ⟨hx, hb, hml, hown, hts⟩ (conX4_steps l D T (m0 + 11 + k1) (raR x5 a b ee 201)) (va_cwS 1 hts gX4_raise_X4_steps rfl rfl rfl (by decide +kernel) ⟨Nat.le_of_ble_eq_true rfl, Nat.le_of_ble_eq_true rfl⟩) (preS hK fr) rfl rfl hl.1 rfl (lv_room (Nat.le_of_ble_eq_true rfl)) dX4_raise_103 ⟨Nat.le_of_ble_eq_true rfl, Nat.le_of_ble_eq_true rfl⟩).run (fun r9 hr9 => ?_)
            rw [hr9]
            have ht9 : tw_raise (nI k1) (nI a) (nI b) (nI ee) x5 = nI 0 := by unfold tw_raise; rw [if_neg c9, if_neg c25, if_neg c39]
            exact W.iret (v := stpM (raR x5 a b ee 201) 200) hx hb hr (fun t ht _ => ⟨⟨stpM (raR x5 a b ee 201) 200, (), rfl, by intro _; exact raV_e (by omega) (by omega) (by omega), by dsimp only; rw [ht]; exact (by rw [ht9]; exact ⟨_, _, fo⟩)⟩, hS.F ht⟩) hS.2.2 dX4_raise_106
          · skip
            have c64 : ¬ (201 ≤ 201) := fun q9 => c64 ((nc_le (a := 201) (b := 201) (by omega) (by omega)).mpr q9)
            omega
      · skip
        refine lv_aload_n hx hb dX4_raise_42 rfl (lv_at hl 0 rfl) ?_
        refine lv_iconst (v := nI 2) hx hb dX4_raise_43 (by decide) ?_
        refine va_calli (va_runV (As := [.int (nI 2)]) (rest := []) ⟨hx, hb, hml, hown, hts⟩ (conX4_no l D T m0 (nI 0) (nI 2) (.ref (m0 + 1)) (.ref (m0 + 10))) (cwV 1 hts gX4_raise_X4_no rfl rfl rfl (by decide +kernel) ⟨Nat.le_of_ble_eq_true rfl, Nat.le_of_ble_eq_true rfl⟩) (preV hK hw.o rfl hw.o) rfl rfl hl.1 rfl (lv_room (Nat.le_of_ble_eq_true rfl)) dX4_raise_44 ⟨Nat.le_of_ble_eq_true rfl, Nat.le_of_ble_eq_true rfl⟩) hS (fun q _ h9 => (hA q (by have h8 : q = m0 := h9; omega))) (fun q h9 => (hA q (by have h8 : q = m0 := h9; omega))) (fun r u t H1 locs1 ht hvm hw9 hB hz1 hk1 hS => ?_)
        try dsimp only at hB
        rw [ht] at hB
        rw [hw9]
        replace hw := hw.setK hB hk1
        have ht9 : tw_raise (nI k1) (nI a) (nI b) (nI ee) x5 = nI 2 := by unfold tw_raise; rw [if_neg c9, if_neg c25, if_pos c39]
        exact W.iret (v := nI 0) hx hb hr (fun t ht _ => ⟨⟨nI 0, (), rfl, by exact fun h9 => absurd (ht9.symm.trans h9) (by decide), by dsimp only; rw [ht]; exact (by rw [ht9]; exact ⟨_, _, hw.o⟩)⟩, hS.F ht⟩) hS.2.2 dX4_raise_47
  · skip
    refine lv_aload_n hx hb dX4_raise_12 rfl (lv_at hl 0 rfl) ?_
    refine lv_iconst (v := nI 1) hx hb dX4_raise_13 (by decide) ?_
    refine va_calli (va_runV (As := [.int (nI 1)]) (rest := []) ⟨hx, hb, hml, hown, hts⟩ (conX4_no l D T m0 (nI 0) (nI 1) (.ref (m0 + 1)) (.ref (m0 + 10))) (cwV 1 hts gX4_raise_X4_no rfl rfl rfl (by decide +kernel) ⟨Nat.le_of_ble_eq_true rfl, Nat.le_of_ble_eq_true rfl⟩) (preV hK hw.o rfl hw.o) rfl rfl hl.1 rfl (lv_room (Nat.le_of_ble_eq_true rfl)) dX4_raise_14 ⟨Nat.le_of_ble_eq_true rfl, Nat.le_of_ble_eq_true rfl⟩) hS (fun q _ h9 => (hA q (by have h8 : q = m0 := h9; omega))) (fun q h9 => (hA q (by have h8 : q = m0 := h9; omega))) (fun r u t H1 locs1 ht hvm hw9 hB hz1 hk1 hS => ?_)
    try dsimp only at hB
    rw [ht] at hB
    rw [hw9]
    replace hw := hw.setK hB hk1
    have ht9 : tw_raise x1 x2 x3 x4 x5 = nI 1 := by unfold tw_raise; rw [if_pos c9]
    exact W.iret (v := nI 0) hx hb hr (fun t ht _ => ⟨⟨nI 0, (), rfl, by exact fun h9 => absurd (ht9.symm.trans h9) (by decide), by dsimp only; rw [ht]; exact (by rw [ht9]; exact ⟨_, _, hw.o⟩)⟩, hS.F ht⟩) hS.2.2 dX4_raise_17
