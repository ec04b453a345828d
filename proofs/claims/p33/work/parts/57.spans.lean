/-! STONES: THE SPANS OF A ROW OF GRAINS -/
def pF (f : Nat → Int32) (g : Nat) : Bool := decide (¬ f g = 0)
theorem pF_y {f : Nat → Int32} {g : Nat} : pF f g = true ↔ ¬ f g = 0 := by
  unfold pF
  exact decide_eq_true_iff
theorem pr2_u (x y : Nat) : ∀ k : Nat, k < 2 → upd (upd zr0 0 (nI x)) 1 (nI y) k = pr2 x y k := by
  intro k hk
  rcases (show k = 0 ∨ k = 1 by omega) with rfl | rfl
  · rfl
  · rfl
theorem ILA.nil {D : va_G} {T : Nat → ClassId} {w q : Nat} {ads a b : Nat → Nat} {g : Nat → Option Nat} {H : Heap} (h : pAt D H q (eR (T 5) 0 g)) : ILA D T w q ads 0 a b H := ⟨h.outR fun k hk => absurd hk (Nat.not_lt_zero k), fun k hk => absurd hk (Nat.not_lt_zero k)⟩
theorem ILA.low {D : va_G} {T : Nat → ClassId} {w q n : Nat} {ads a b : Nat → Nat} {H : Heap} (h : ILA D T w q ads n a b H) : q < H.size ∧ ∀ k : Nat, k < n → ads k < H.size := ⟨h.1.lt, fun k hk => (h.2 k hk).2.lt⟩
theorem ILA.ne {D : va_G} {T : Nat → ClassId} {w q n z b9 : Nat} {ads a b : Nat → Nat} {H H1 : Heap} (h : ILA D T w q ads n a b H) (hl : q < z ∧ ∀ k : Nat, k < n → ads k < z) (hb : z ≤ b9) (oq : ∀ x : Nat, x ≠ b9 → H1[x]? = H[x]?) : ILA D T w q ads n a b H1 := h.kept (oq _ (by have := hl.1; omega)) fun k hk => oq _ (by have := hl.2 k hk; omega)
theorem sp_done {D : va_G} {T : Nat → ClassId} {sz r mo m : Nat} {a b : Nat → Nat} {H : Heap} (h : ILA D T sz r (fun k => if k = m then mo else sz + 1 + 2 * k) (m + 1) a b H) (hr : r = sz + 2 * (m + 1)) (hm : mo = sz + 1 + 2 * m) : ILA D T sz (sz + 2 * (m + 1)) (fun k => sz + 1 + 2 * k) (m + 1) a b H := by
  subst hr
  have e : (fun k => if k = m then mo else sz + 1 + 2 * k) = fun k => sz + 1 + 2 * k := by
    funext k
    by_cases c : k = m
    · rw [if_pos c, hm, c]
    · rw [if_neg c]
  rw [e] at h
  exact h
set_option maxHeartbeats 4000000 in
set_option maxRecDepth 100000 in
theorem conX4_spans (l : Launch) (D : va_G) (T : Nat → ClassId) (sz q : Nat) (f : Nat → Int32) : Met l yX4_spans wsX4_spans ({ frames := 2, cells := 403, slots := 20904, locals := 82 }) (cP D T [.ref q] (fun H => H.size = sz ∧ pAt D H q (eN (T 0) 201 f))) (va_Qr (fun (_ : Unit) => True) (fun _ r t => sz ≤ r ∧ IL D T sz r (spS (pF f) 201) t.heap) (fun z : Nat => sz ≤ z)) 403 20904 (fun z : Nat => sz ≤ z) := by
  refine Met.ofW (cc := cX4_spans) (maxL := 4) (ret := (some (.array (.array .int)))) (by decide) rfl ?_
  intro p e s m args below meth c s₁ B hml hv9
  obtain ⟨rfl, hK, hsz, hf⟩ := hv9
  have hx := B.exec
  have hb := B.bytes
  have hr := B.returns
  have hts := atoms_spec (ws := wsX4_spans) B.pre
  have hown : s.vm.findClass RX4 = some m.cls := findClass_of_methodNamed B.named
  have hlocks := B.notSynchronized
  generalize hAe : (fun z : Nat => sz ≤ z) = A
  have hA : ∀ z : Nat, s.heap.size ≤ z → A z := fun z h9 => by subst hAe; show sz ≤ z; omega
  have hS : va_S A s.heap s.heap [] := va_S.rf
  have hl := lv_entry ([.ref q]) (n := 4) (Nat.le_of_ble_eq_true rfl)
  rw [lg_entry_eq]
  generalize (lg_sl ([.ref q]) ++ List.replicate (4 - (lg_sl ([.ref q])).length) Slot.unset).toArray = ls at hl ⊢
  have hl : lv_has ls 4 [(0, .ref q)] := hl
  have hold : ∀ z : Nat, z < s.heap.size → s.heap[z]? = s.heap[z]? := fun _ _ => rfl
  refine lv_iconst (v := nI 0) hx hb dX4_spans_0 (by decide) ?_
  obtain ⟨b1, hb1⟩ : ∃ z : Nat, z = s.heap.size := ⟨_, rfl⟩
  have ln_b1 : s.heap.size ≤ b1 := by have h8 := hS.1; omega
  refine q_newqa hx hb hown (hts (.classLink RX4 44 "[I") (by decide +kernel)) hK 0 rfl (by omega) (by show _ ≤ 403; omega) (by show _ ≤ 20904; omega) hS dX4_spans_1 (fun H1 hw9 z1 o1 hS => ?_)
  rw [← hb1] at hw9 ⊢
  have nb1 := hw9
  have sb1 : H1.size = b1 + 1 := by omega
  replace hold := fun (z : Nat) (hz : z < s.heap.size) => (o1 z (by omega)).trans (hold z hz)
  refine lv_astore_n (lv' := [(1, .ref b1), (0, .ref q)]) hx hb dX4_spans_4 rfl hl (by decide) rfl (fun ls hl => ?_)
  refine lv_iconst (v := nI 0) hx hb dX4_spans_5 (by decide) ?_
  refine lv_istore_n (lv' := [(2, .int (nI 0)), (1, .ref b1), (0, .ref q)]) hx hb dX4_spans_6 rfl hl (by decide) rfl (fun ls hl => ?_)
  refine q_forg (fun (i : Nat) (H : Heap) (locs : List Loc) (ls : Array Slot) => va_S A s.heap H locs ∧ lv_has ls 4 [(2, .int (nI i)), (1, .ref (sz + 2 * (spS (pF f) i).1)), (0, .ref q)] ∧ H.size = sz + 1 + 2 * (spS (pF f) i).1 ∧ ILA D T sz (sz + 2 * (spS (pF f) i).1) (fun k => sz + 1 + 2 * k) (spS (pF f) i).1 (spS (pF f) i).2.1 (spS (pF f) i).2.2 H ∧ ∀ z : Nat, z < s.heap.size → H[z]? = s.heap[z]?) 201 2 104 ?_ ?_ ?_
  · skip
    have e1 : b1 = sz + 2 * (spS (pF f) 0).1 := by (show _ = sz + 2 * 0; omega)
    exact ⟨hS, lv_sub (lv_ex hl 1 rfl (congrArg Value.ref e1)) [0, 1, 2] rfl, (by show _ = sz + 1 + 2 * 0; omega), (by have e9 : sz + 2 * (spS (pF f) 0).1 = b1 := (by show sz + 2 * 0 = b1; omega); rw [e9]; exact ILA.nil nb1), (by exact hold)⟩
  · skip
    intro i H locs ls hi9 hin9 hnext
    obtain ⟨hS, hl, hsz, hil, hold⟩ := hin9
    refine lv_iload_n hx hb dX4_spans_7 rfl (lv_at hl 0 rfl) ?_
    refine lv_sipush (v := nI 200) hx hb dX4_spans_8 (by decide) ?_
    refine lv_icmp_gt (tgt := 71) hx hb dX4_spans_11 (by decide) (fun c11 => ?_) (fun c11 => ?_)
    · skip
      have c11 : 200 < i := (nc_lt (a := 200) (b := i) (by omega) (by omega)).mp c11
      omega
    · skip
      have c11 : ¬ (200 < i) := fun q9 => c11 ((nc_lt (a := 200) (b := i) (by omega) (by omega)).mpr q9)
      refine lv_aload_n hx hb dX4_spans_14 rfl (lv_at hl 2 rfl) ?_
      refine lv_iload_n hx hb dX4_spans_15 rfl (lv_at hl 0 rfl) ?_
      refine q_zald hx hb hK (hf.kept (hold _ hf.lt)) i (rfl) (by omega) (by decide) dX4_spans_16 ?_
      refine lv_if_ne (tgt := 23) hx hb dX4_spans_17 (by decide) (fun c17 => ?_) (fun c17 => ?_)
      · skip
        refine lv_iload_n hx hb dX4_spans_23 rfl (lv_at hl 0 rfl) ?_
        refine lv_if_le (tgt := 47) hx hb dX4_spans_24 (by decide) (fun c24 => ?_) (fun c24 => ?_)
        · skip
          have c24 : i ≤ 0 := (nc_le (a := i) (b := 0) (by omega) (by omega)).mp c24
          have cp9 : pF f i = true := pF_y.mpr c17
          have cn9 : ¬ (0 < i ∧ pF f (i - 1) = true) := fun h9 => by first | omega | exact pF_y.mp h9.2 c32
          have hle9 := (spS_ok (pF f) (show i ≤ 201 by omega)).1.1.le
          refine lv_iconst (v := nI 2) hx hb dX4_spans_47 (by decide) ?_
          have hlw9 := hil.low
          obtain ⟨b2, hb2⟩ : ∃ z : Nat, z = H.size := ⟨_, rfl⟩
          have ln_b2 : s.heap.size ≤ b2 := by have h8 := hS.1; omega
          refine q_newi hx hb (hts (.arrayClass .int) (by decide +kernel)) hK 2 rfl (by decide) (by show _ ≤ 403; omega) (by show _ ≤ 20904; omega) hS dX4_spans_48 (fun H1 hw9 z1 o1 hS => ?_)
          rw [← hb2] at hw9 ⊢
          have nb2 := hw9
          have sb2 : H1.size = b2 + 1 := by omega
          replace hold := fun (z : Nat) (hz : z < s.heap.size) => (o1 z (by omega)).trans (hold z hz)
          replace hil := hil.old o1
          refine lv_dup hx hb dX4_spans_50 rfl ?_
          refine lv_iconst (v := nI 0) hx hb dX4_spans_51 (by decide) ?_
          refine lv_iload_n hx hb dX4_spans_52 rfl (lv_at hl 0 rfl) ?_
          refine q_iast hx hb hK nb2 0 (rfl) (by omega) (by decide) hS (hA _ (by omega)) dX4_spans_53 (fun H1 locs1 hw9 hz oq hS => ?_)
          have nb2 := hw9
          replace hold := fun (z : Nat) (hz : z < s.heap.size) => (oq z (by omega)).trans (hold z hz)
          replace hil := hil.ne hlw9 (by omega) oq
          refine lv_dup hx hb dX4_spans_54 rfl ?_
          refine lv_iconst (v := nI 1) hx hb dX4_spans_55 (by decide) ?_
          refine lv_iload_n hx hb dX4_spans_56 rfl (lv_at hl 0 rfl) ?_
          refine q_iast hx hb hK nb2 1 (rfl) (by omega) (by decide) hS (hA _ (by omega)) dX4_spans_57 (fun H1 locs1 hw9 hz oq hS => ?_)
          have nb2 := hw9
          replace hold := fun (z : Nat) (hz : z < s.heap.size) => (oq z (by omega)).trans (hold z hz)
          replace hil := hil.ne hlw9 (by omega) oq
          refine lv_astore_n (lv' := [(3, .ref b2), (2, .int (nI i)), (1, .ref (sz + 2 * (spS (pF f) i).1)), (0, .ref q)]) hx hb dX4_spans_58 rfl hl (by decide) rfl (fun ls hl => ?_)
          refine lv_aload_n hx hb dX4_spans_59 rfl (lv_at hl 2 rfl) ?_
          refine lv_aload_n hx hb dX4_spans_60 rfl (lv_at hl 0 rfl) ?_
          obtain ⟨b3, hb3⟩ : ∃ z : Nat, z = H1.size := ⟨_, rfl⟩
          have lnb2_b3 : b2 < b3 := by have h8 := nb2.lt; omega
          have ln_b3 : s.heap.size ≤ b3 := by have h8 := hS.1; omega
          refine va_callr (va_runS (As := [.ref (sz + 2 * (spS (pF f) i).1), .ref b2]) (rest := []) ⟨hx, hb, hml, hown, hts⟩ (conX4_with l D T b3 sz (sz + 2 * (spS (pF f) i).1) b2 i i (fun k => sz + 1 + 2 * k) ((spS (pF f) i).1) ((spS (pF f) i).2.1) ((spS (pF f) i).2.2) (by omega) (by omega)) (va_cwS 2 hts gX4_spans_X4_with rfl rfl rfl (by decide +kernel) ⟨Nat.le_of_ble_eq_true rfl, Nat.le_of_ble_eq_true rfl⟩) (preS hK ⟨hb3.symm, hil, nb2.outN (pr2_u _ _)⟩) rfl rfl hl.1 rfl (lv_room (Nat.le_of_ble_eq_true rfl)) dX4_spans_61 ⟨by show _ ≤ 403; omega, by show _ ≤ 20904; omega⟩) hS (fun q _ h9 => (hA q (by have h8 : b3 ≤ q := h9; omega))) (fun q h9 => (hA q (by have h8 : b3 ≤ q := h9; omega))) (fun u ra t H1 locs1 ht hvm hw9 hB hz1 hk1 hS => ?_)
          try dsimp only at hB
          rw [ht] at hB
          obtain ⟨a2, rfl⟩ : ∃ z, z = ra := ⟨_, rfl⟩
          obtain ⟨hra, hz9, hil⟩ := hB
          subst hra
          replace hold := fun (z : Nat) (hz : z < s.heap.size) => (hk1 z (by omega) (fun h9 => by have h8 : a2 ≤ z := h9; omega)).trans (hold z hz)
          refine lv_astore_n (lv' := [(1, .ref a2), (3, .ref b2), (2, .int (nI i)), (0, .ref q)]) hx hb dX4_spans_64 rfl hl (by decide) rfl (fun ls hl => ?_)
          refine lv_iinc (v := nI (i + 1)) (lv' := [(2, .int (nI (i + 1))), (1, .ref a2), (3, .ref b2), (0, .ref q)]) hx hb dX4_spans_65 hl (k := 2) rfl (inc_1 _) (by decide) rfl (fun ls hl => ?_)
          refine lv_goto (tgt := 7) hx hb dX4_spans_68 (by decide) ?_
          have e3 : a2 = sz + 2 * (spS (pF f) (i + 1)).1 := by first | (rw [spS_s, spF_n (fun h9 => pF_y.mp h9 c17)]; done) | (rw [spS_s, spF_x cp9 cx9]; done) | (rw [spS_s, spF_b cp9 cn9]; show _ = sz + 2 * ((spS (pF f) i).1 + 1); omega)
          exact W.widen (by omega) (by omega) (hnext _ _ _ ⟨hS, lv_sub (lv_ex hl 1 rfl (congrArg Value.ref e3)) [0, 1, 3] rfl, (by first | (rw [spS_s, spF_n (fun h9 => pF_y.mp h9 c17)]; omega) | (rw [spS_s, spF_x cp9 cx9]; exact hsz) | (rw [spS_s, spF_b cp9 cn9]; show _ = sz + 1 + 2 * ((spS (pF f) i).1 + 1); omega)), (by first | (rw [spS_s, spF_n (fun h9 => pF_y.mp h9 c17)]; exact hil) | (rw [spS_s, spF_x cp9 cx9]; exact hil) | (rw [spS_s, spF_b cp9 cn9]; exact sp_done hil (by omega) (by omega))), (by exact hold)⟩)
        · skip
          have c24 : ¬ (i ≤ 0) := fun q9 => c24 ((nc_le (a := i) (b := 0) (by omega) (by omega)).mpr q9)
          refine lv_aload_n hx hb dX4_spans_27 rfl (lv_at hl 2 rfl) ?_
          refine lv_iload_n hx hb dX4_spans_28 rfl (lv_at hl 0 rfl) ?_
          refine lv_iconst (v := nI 1) hx hb dX4_spans_29 (by decide) ?_
          refine lv_isub hx hb dX4_spans_30 ?_
          rw [pk_sub (a := i) (b := 1) (by omega)]
          refine q_zald hx hb hK (hf.kept (hold _ hf.lt)) (i - 1) (rfl) (by omega) (by decide) dX4_spans_31 ?_
          refine lv_if_eq (tgt := 47) hx hb dX4_spans_32 (by decide) (fun c32 => ?_) (fun c32 => ?_)
          · skip
            have cp9 : pF f i = true := pF_y.mpr c17
            have cn9 : ¬ (0 < i ∧ pF f (i - 1) = true) := fun h9 => by first | omega | exact pF_y.mp h9.2 c32
            have hle9 := (spS_ok (pF f) (show i ≤ 201 by omega)).1.1.le
            refine lv_iconst (v := nI 2) hx hb dX4_spans_47 (by decide) ?_
            have hlw9 := hil.low
            obtain ⟨b2, hb2⟩ : ∃ z : Nat, z = H.size := ⟨_, rfl⟩
            have ln_b2 : s.heap.size ≤ b2 := by have h8 := hS.1; omega
            refine q_newi hx hb (hts (.arrayClass .int) (by decide +kernel)) hK 2 rfl (by decide) (by show _ ≤ 403; omega) (by show _ ≤ 20904; omega) hS dX4_spans_48 (fun H1 hw9 z1 o1 hS => ?_)
            rw [← hb2] at hw9 ⊢
            have nb2 := hw9
            have sb2 : H1.size = b2 + 1 := by omega
            replace hold := fun (z : Nat) (hz : z < s.heap.size) => (o1 z (by omega)).trans (hold z hz)
            replace hil := hil.old o1
            refine lv_dup hx hb dX4_spans_50 rfl ?_
            refine lv_iconst (v := nI 0) hx hb dX4_spans_51 (by decide) ?_
            refine lv_iload_n hx hb dX4_spans_52 rfl (lv_at hl 0 rfl) ?_
            refine q_iast hx hb hK nb2 0 (rfl) (by omega) (by decide) hS (hA _ (by omega)) dX4_spans_53 (fun H1 locs1 hw9 hz oq hS => ?_)
            have nb2 := hw9
            replace hold := fun (z : Nat) (hz : z < s.heap.size) => (oq z (by omega)).trans (hold z hz)
            replace hil := hil.ne hlw9 (by omega) oq
            refine lv_dup hx hb dX4_spans_54 rfl ?_
            refine lv_iconst (v := nI 1) hx hb dX4_spans_55 (by decide) ?_
            refine lv_iload_n hx hb dX4_spans_56 rfl (lv_at hl 0 rfl) ?_
            refine q_iast hx hb hK nb2 1 (rfl) (by omega) (by decide) hS (hA _ (by omega)) dX4_spans_57 (fun H1 locs1 hw9 hz oq hS => ?_)
            have nb2 := hw9
            replace hold := fun (z : Nat) (hz : z < s.heap.size) => (oq z (by omega)).trans (hold z hz)
            replace hil := hil.ne hlw9 (by omega) oq
            refine lv_astore_n (lv' := [(3, .ref b2), (2, .int (nI i)), (1, .ref (sz + 2 * (spS (pF f) i).1)), (0, .ref q)]) hx hb dX4_spans_58 rfl hl (by decide) rfl (fun ls hl => ?_)
            refine lv_aload_n hx hb dX4_spans_59 rfl (lv_at hl 2 rfl) ?_
            refine lv_aload_n hx hb dX4_spans_60 rfl (lv_at hl 0 rfl) ?_
            obtain ⟨b3, hb3⟩ : ∃ z : Nat, z = H1.size := ⟨_, rfl⟩
            have lnb2_b3 : b2 < b3 := by have h8 := nb2.lt; omega
            have ln_b3 : s.heap.size ≤ b3 := by have h8 := hS.1; omega
            refine va_callr (va_runS (As := [.ref (sz + 2 * (spS (pF f) i).1), .ref b2]) (rest := []) ⟨hx, hb, hml, hown, hts⟩ (conX4_with l D T b3 sz (sz + 2 * (spS (pF f) i).1) b2 i i (fun k => sz + 1 + 2 * k) ((spS (pF f) i).1) ((spS (pF f) i).2.1) ((spS (pF f) i).2.2) (by omega) (by omega)) (va_cwS 2 hts gX4_spans_X4_with rfl rfl rfl (by decide +kernel) ⟨Nat.le_of_ble_eq_true rfl, Nat.le_of_ble_eq_true rfl⟩) (preS hK ⟨hb3.symm, hil, nb2.outN (pr2_u _ _)⟩) rfl rfl hl.1 rfl (lv_room (Nat.le_of_ble_eq_true rfl)) dX4_spans_61 ⟨by show _ ≤ 403; omega, by show _ ≤ 20904; omega⟩) hS (fun q _ h9 => (hA q (by have h8 : b3 ≤ q := h9; omega))) (fun q h9 => (hA q (by have h8 : b3 ≤ q := h9; omega))) (fun u ra t H1 locs1 ht hvm hw9 hB hz1 hk1 hS => ?_)
            try dsimp only at hB
            rw [ht] at hB
            obtain ⟨a4, rfl⟩ : ∃ z, z = ra := ⟨_, rfl⟩
            obtain ⟨hra, hz9, hil⟩ := hB
            subst hra
            replace hold := fun (z : Nat) (hz : z < s.heap.size) => (hk1 z (by omega) (fun h9 => by have h8 : a4 ≤ z := h9; omega)).trans (hold z hz)
            refine lv_astore_n (lv' := [(1, .ref a4), (3, .ref b2), (2, .int (nI i)), (0, .ref q)]) hx hb dX4_spans_64 rfl hl (by decide) rfl (fun ls hl => ?_)
            refine lv_iinc (v := nI (i + 1)) (lv' := [(2, .int (nI (i + 1))), (1, .ref a4), (3, .ref b2), (0, .ref q)]) hx hb dX4_spans_65 hl (k := 2) rfl (inc_1 _) (by decide) rfl (fun ls hl => ?_)
            refine lv_goto (tgt := 7) hx hb dX4_spans_68 (by decide) ?_
            have e5 : a4 = sz + 2 * (spS (pF f) (i + 1)).1 := by first | (rw [spS_s, spF_n (fun h9 => pF_y.mp h9 c17)]; done) | (rw [spS_s, spF_x cp9 cx9]; done) | (rw [spS_s, spF_b cp9 cn9]; show _ = sz + 2 * ((spS (pF f) i).1 + 1); omega)
            exact W.widen (by omega) (by omega) (hnext _ _ _ ⟨hS, lv_sub (lv_ex hl 1 rfl (congrArg Value.ref e5)) [0, 1, 3] rfl, (by first | (rw [spS_s, spF_n (fun h9 => pF_y.mp h9 c17)]; omega) | (rw [spS_s, spF_x cp9 cx9]; exact hsz) | (rw [spS_s, spF_b cp9 cn9]; show _ = sz + 1 + 2 * ((spS (pF f) i).1 + 1); omega)), (by first | (rw [spS_s, spF_n (fun h9 => pF_y.mp h9 c17)]; exact hil) | (rw [spS_s, spF_x cp9 cx9]; exact hil) | (rw [spS_s, spF_b cp9 cn9]; exact sp_done hil (by omega) (by omega))), (by exact hold)⟩)
          · skip
            have cx9 : 0 < i ∧ pF f (i - 1) = true := ⟨by omega, pF_y.mpr c32⟩
            have cp9 : pF f i = true := pF_y.mpr c17
            have hle9 := (spS_ok (pF f) (show i ≤ 201 by omega)).1.1.le
            obtain ⟨hm0, hmb⟩ := (spS_ok (pF f) (show i ≤ 201 by omega)).2 cx9.1 cx9.2
            refine lv_aload_n hx hb dX4_spans_35 rfl (lv_at hl 1 rfl) ?_
            refine lv_aload_n hx hb dX4_spans_36 rfl (lv_at hl 1 rfl) ?_
            refine q_len hx hb hK 5 rfl hil.1 dX4_spans_37 ?_
            refine lv_iconst (v := nI 1) hx hb dX4_spans_38 (by decide) ?_
            refine lv_isub hx hb dX4_spans_39 ?_
            rw [pk_sub (a := (spS (pF f) i).1) (b := 1) (by omega)]
            refine q_aald hx hb hK 5 rfl rfl hil.1 (((spS (pF f) i).1) - 1) rfl (by omega) (by omega) (b := sz + 1 + 2 * (((spS (pF f) i).1) - 1)) rfl dX4_spans_40 ?_
            refine lv_iconst (v := nI 1) hx hb dX4_spans_41 (by decide) ?_
            refine lv_iload_n hx hb dX4_spans_42 rfl (lv_at hl 0 rfl) ?_
            refine q_iast hx hb hK (hil.2 ((spS (pF f) i).1 - 1) (by omega)).2 1 rfl (by omega) (by omega) hS (hA _ (by show _ ≤ sz + 1 + 2 * _; omega)) dX4_spans_43 (fun H1 locs1 hw9 hz oq hS => ?_)
            replace hil := hil.ext (by show _ ≠ sz + 1 + 2 * _; omega) (fun k hk => by show sz + 1 + 2 * k ≠ sz + 1 + 2 * _; omega) hw9 oq
            replace hold := fun (z : Nat) (hz : z < s.heap.size) => (oq z (by show z ≠ sz + 1 + 2 * _; omega)).trans (hold z hz)
            replace hsz := hz.trans hsz
            refine lv_goto (tgt := 65) hx hb dX4_spans_44 (by decide) ?_
            refine lv_iinc (v := nI (i + 1)) (lv' := [(2, .int (nI (i + 1))), (1, .ref (sz + 2 * (spS (pF f) i).1)), (0, .ref q)]) hx hb dX4_spans_65 hl (k := 0) rfl (inc_1 _) (by decide) rfl (fun ls hl => ?_)
            refine lv_goto (tgt := 7) hx hb dX4_spans_68 (by decide) ?_
            have e6 : sz + 2 * (spS (pF f) i).1 = sz + 2 * (spS (pF f) (i + 1)).1 := by first | (rw [spS_s, spF_n (fun h9 => pF_y.mp h9 c17)]; done) | (rw [spS_s, spF_x cp9 cx9]; done) | (rw [spS_s, spF_b cp9 cn9]; show _ = sz + 2 * ((spS (pF f) i).1 + 1); omega)
            exact W.widen (by omega) (by omega) (hnext _ _ _ ⟨hS, lv_sub (lv_ex hl 1 rfl (congrArg Value.ref e6)) [0, 1, 2] rfl, (by first | (rw [spS_s, spF_n (fun h9 => pF_y.mp h9 c17)]; omega) | (rw [spS_s, spF_x cp9 cx9]; exact hsz) | (rw [spS_s, spF_b cp9 cn9]; show _ = sz + 1 + 2 * ((spS (pF f) i).1 + 1); omega)), (by first | (rw [spS_s, spF_n (fun h9 => pF_y.mp h9 c17)]; exact hil) | (rw [spS_s, spF_x cp9 cx9]; exact hil) | (rw [spS_s, spF_b cp9 cn9]; exact sp_done hil (by omega) (by omega))), (by exact hold)⟩)
      · skip
        refine lv_goto (tgt := 65) hx hb dX4_spans_20 (by decide) ?_
        refine lv_iinc (v := nI (i + 1)) (lv' := [(2, .int (nI (i + 1))), (1, .ref (sz + 2 * (spS (pF f) i).1)), (0, .ref q)]) hx hb dX4_spans_65 hl (k := 0) rfl (inc_1 _) (by decide) rfl (fun ls hl => ?_)
        refine lv_goto (tgt := 7) hx hb dX4_spans_68 (by decide) ?_
        have e7 : sz + 2 * (spS (pF f) i).1 = sz + 2 * (spS (pF f) (i + 1)).1 := by first | (rw [spS_s, spF_n (fun h9 => pF_y.mp h9 c17)]; done) | (rw [spS_s, spF_x cp9 cx9]; done) | (rw [spS_s, spF_b cp9 cn9]; show _ = sz + 2 * ((spS (pF f) i).1 + 1); omega)
        exact W.widen (by omega) (by omega) (hnext _ _ _ ⟨hS, lv_sub (lv_ex hl 1 rfl (congrArg Value.ref e7)) [0, 1, 2] rfl, (by first | (rw [spS_s, spF_n (fun h9 => pF_y.mp h9 c17)]; omega) | (rw [spS_s, spF_x cp9 cx9]; exact hsz) | (rw [spS_s, spF_b cp9 cn9]; show _ = sz + 1 + 2 * ((spS (pF f) i).1 + 1); omega)), (by first | (rw [spS_s, spF_n (fun h9 => pF_y.mp h9 c17)]; exact hil) | (rw [spS_s, spF_x cp9 cx9]; exact hil) | (rw [spS_s, spF_b cp9 cn9]; exact sp_done hil (by omega) (by omega))), (by exact hold)⟩)
  · skip
    intro H locs ls hin9
    obtain ⟨hS, hl, hsz, hil, hold⟩ := hin9
    refine lv_iload_n hx hb dX4_spans_7 rfl (lv_at hl 0 rfl) ?_
    refine lv_sipush (v := nI 200) hx hb dX4_spans_8 (by decide) ?_
    refine lv_icmp_gt (tgt := 71) hx hb dX4_spans_11 (by decide) (fun c11 => ?_) (fun c11 => ?_)
    · skip
      have c11 : 200 < 201 := (nc_lt (a := 200) (b := 201) (by omega) (by omega)).mp c11
      refine lv_aload_n hx hb dX4_spans_71 rfl (lv_at hl 1 rfl) ?_
      refine W.widen (k := 403) (n := 20904) (by first | omega | decide) (by first | omega | decide) ?_
      exact W.aret (v := .ref (sz + 2 * (spS (pF f) 201).1)) hx hb hr (Or.inr ⟨_, rfl⟩) (Or.inr ⟨_, rfl⟩) (fun t ht _ => ⟨⟨(), sz + 2 * (spS (pF f) 201).1, rfl, trivial, by dsimp only; rw [ht]; exact ⟨by omega, _, hil⟩⟩, hS.F ht⟩) hS.2.2 dX4_spans_72
    · skip
      have c11 : ¬ (200 < 201) := fun q9 => c11 ((nc_lt (a := 200) (b := 201) (by omega) (by omega)).mpr q9)
      omega
