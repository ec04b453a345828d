/-! STONES: A ROW OF SPANS MOVED -/
set_option maxHeartbeats 4000000 in
set_option maxRecDepth 100000 in
theorem conX4_moved (l : Launch) (D : va_G) (T : Nat → ClassId) (sz : Nat) (w q : Nat) (ads : Nat → Nat) (L : SL) (pq : Nat → Bool) (hR : Rep pq 201 L) (by9 : Int32) (h1 : ¬ by9 < -100) (h2 : by9 ≤ nI 100) : Met l yX4_moved wsX4_moved ({ frames := 2, cells := 203, slots := 10504, locals := 82 }) (cP D T [.ref q, .int by9] (fun H => H.size = sz ∧ ILA D T w q ads L.1 L.2.1 L.2.2 H)) (va_Qr (fun (_ : Unit) => True) (fun _ r t => sz ≤ r ∧ ∃ S : SL, Rep (mvB pq by9.toInt) 201 S ∧ IL D T sz r S t.heap) (fun z : Nat => sz ≤ z)) 203 10504 (fun z : Nat => sz ≤ z) := by
  refine Met.ofW (cc := cX4_moved) (maxL := 8) (ret := (some (.array (.array .int)))) (by decide) rfl ?_
  intro p e s m args below meth c s₁ B hml hv9
  obtain ⟨rfl, hK, hsz, hi0⟩ := hv9
  have hx := B.exec
  have hb := B.bytes
  have hr := B.returns
  have hts := atoms_spec (ws := wsX4_moved) B.pre
  have hown : s.vm.findClass RX4 = some m.cls := findClass_of_methodNamed B.named
  have hlocks := B.notSynchronized
  generalize hAe : (fun z : Nat => sz ≤ z) = A
  have hA : ∀ z : Nat, s.heap.size ≤ z → A z := fun z h9 => by subst hAe; show sz ≤ z; omega
  have hS : va_S A s.heap s.heap [] := va_S.rf
  have hl := lv_entry ([.ref q, .int by9]) (n := 8) (Nat.le_of_ble_eq_true rfl)
  rw [lg_entry_eq]
  generalize (lg_sl ([.ref q, .int by9]) ++ List.replicate (8 - (lg_sl ([.ref q, .int by9])).length) Slot.unset).toArray = ls at hl ⊢
  have hl : lv_has ls 8 [(0, .ref q), (1, .int by9)] := hl
  have hold : ∀ z : Nat, z < s.heap.size → s.heap[z]? = s.heap[z]? := fun _ _ => rfl
  have hn9 := hR.1.le
  refine lv_iconst (v := nI 0) hx hb dX4_moved_0 (by decide) ?_
  obtain ⟨b1, hb1⟩ : ∃ z : Nat, z = s.heap.size := ⟨_, rfl⟩
  have ln_b1 : s.heap.size ≤ b1 := by have h8 := hS.1; omega
  refine q_newqa hx hb hown (hts (.classLink RX4 44 "[I") (by decide +kernel)) hK 0 rfl (by omega) (by show _ ≤ 203; omega) (by show _ ≤ 10504; omega) hS dX4_moved_1 (fun H1 hw9 z1 o1 hS => ?_)
  rw [← hb1] at hw9 ⊢
  have nb1 := hw9
  have sb1 : H1.size = b1 + 1 := by omega
  replace hold := fun (z : Nat) (hz : z < s.heap.size) => (o1 z (by omega)).trans (hold z hz)
  refine lv_astore_n (lv' := [(2, .ref b1), (0, .ref q), (1, .int by9)]) hx hb dX4_moved_4 rfl hl (by decide) rfl (fun ls hl => ?_)
  refine lv_aload_n hx hb dX4_moved_5 rfl (lv_at hl 1 rfl) ?_
  refine lv_astore_n (lv' := [(3, .ref q), (2, .ref b1), (0, .ref q), (1, .int by9)]) hx hb dX4_moved_6 rfl hl (by decide) rfl (fun ls hl => ?_)
  refine lv_aload_n hx hb dX4_moved_7 rfl (lv_at hl 0 rfl) ?_
  refine q_len hx hb hK 5 rfl (hi0.old hold).1 dX4_moved_8 ?_
  refine lv_istore (lv' := [(4, .int (nI L.1)), (3, .ref q), (2, .ref b1), (0, .ref q), (1, .int by9)]) hx hb dX4_moved_9 hl (by decide) rfl (fun ls hl => ?_)
  refine lv_iconst (v := nI 0) hx hb dX4_moved_11 (by decide) ?_
  refine lv_istore (lv' := [(5, .int (nI 0)), (4, .int (nI L.1)), (3, .ref q), (2, .ref b1), (0, .ref q), (1, .int by9)]) hx hb dX4_moved_12 hl (by decide) rfl (fun ls hl => ?_)
  refine q_forg (fun (i : Nat) (H : Heap) (locs : List Loc) (ls : Array Slot) => ∃ mk : Nat, ∃ adm : Nat → Nat, ∃ S : SL, va_S A s.heap H locs ∧ lv_has ls 8 [(5, .int (nI i)), (4, .int (nI L.1)), (3, .ref q), (2, .ref mk), (0, .ref q), (1, .int by9)] ∧ sz ≤ mk ∧ ILA D T sz mk adm S.1 S.2.1 S.2.2 H ∧ Rep (mvB pq by9.toInt) (mfN L by9.toInt i) S ∧ ∀ z : Nat, z < s.heap.size → H[z]? = s.heap[z]?) L.1 2 104 ?_ ?_ ?_
  · skip
    exact ⟨b1, fun _ => 0, (0, fun _ => 0, fun _ => 0), hS, lv_sub hl [0, 1, 2, 3, 4, 5] rfl, (by omega), (by exact ILA.nil nb1), (by rw [mfN_0]; exact Rep.nil _ _ _), (by exact hold)⟩
  · skip
    intro i H locs ls hi9 hin9 hnext
    obtain ⟨mk, adm, S, hS, hl, hmk, hil, hrep, hold⟩ := hin9
    have hle9 := hrep.1.le
    refine lv_iload hx hb dX4_moved_14 (lv_at hl 0 rfl) ?_
    refine lv_iload hx hb dX4_moved_16 (lv_at hl 1 rfl) ?_
    refine lv_icmp_ge (tgt := 88) hx hb dX4_moved_18 (by decide) (fun c18 => ?_) (fun c18 => ?_)
    · skip
      have c18 : L.1 ≤ i := (nc_le (a := L.1) (b := i) (by omega) (by omega)).mp c18
      omega
    · skip
      have c18 : ¬ (L.1 ≤ i) := fun q9 => c18 ((nc_le (a := L.1) (b := i) (by omega) (by omega)).mpr q9)
      have hsp9 := hR.sp (show i < L.1 by omega)
      refine lv_aload_n hx hb dX4_moved_21 rfl (lv_at hl 2 rfl) ?_
      refine lv_iload hx hb dX4_moved_22 (lv_at hl 0 rfl) ?_
      refine q_aald hx hb hK 5 rfl rfl (hi0.old hold).1 i rfl (by omega) (by omega) (b := ads i) rfl dX4_moved_24 ?_
      refine lv_astore (lv' := [(6, .ref (ads i)), (5, .int (nI i)), (4, .int (nI L.1)), (3, .ref q), (2, .ref mk), (0, .ref q), (1, .int by9)]) hx hb dX4_moved_25 hl (by decide) rfl (fun ls hl => ?_)
      refine lv_iconst (v := nI 2) hx hb dX4_moved_27 (by decide) ?_
      have hlw9 := hil.low
      obtain ⟨b2, hb2⟩ : ∃ z : Nat, z = H.size := ⟨_, rfl⟩
      have ln_b2 : s.heap.size ≤ b2 := by have h8 := hS.1; omega
      refine q_newi hx hb (hts (.arrayClass .int) (by decide +kernel)) hK 2 rfl (by decide) (by show _ ≤ 203; omega) (by show _ ≤ 10504; omega) hS dX4_moved_28 (fun H1 hw9 z1 o1 hS => ?_)
      rw [← hb2] at hw9 ⊢
      have nb2 := hw9
      have sb2 : H1.size = b2 + 1 := by omega
      replace hold := fun (z : Nat) (hz : z < s.heap.size) => (o1 z (by omega)).trans (hold z hz)
      replace hil := hil.old o1
      refine lv_dup hx hb dX4_moved_30 rfl ?_
      refine lv_iconst (v := nI 0) hx hb dX4_moved_31 (by decide) ?_
      refine lv_iconst (v := nI 0) hx hb dX4_moved_32 (by decide) ?_
      refine lv_aload hx hb dX4_moved_33 (lv_at hl 0 rfl) ?_
      refine lv_iconst (v := nI 0) hx hb dX4_moved_35 (by decide) ?_
      refine q_iald hx hb hK ((hi0.old hold).2 i (by omega)).2 0 (rfl) (by omega) (by decide) dX4_moved_36 ?_
      refine W.eq (g2 := F0 m 37 ls [.int (nI (L.2.1 i)), .int (nI 0), .int (nI 0), .ref b2, .ref b2]) rfl ?_
      refine lv_iconst (v := nI 2) hx hb dX4_moved_37 (by decide) ?_
      refine lv_iload_n hx hb dX4_moved_38 rfl (lv_at hl 6 rfl) ?_
      refine lv_imul hx hb dX4_moved_39 ?_
      refine lv_iadd hx hb dX4_moved_40 ?_
      refine va_mmax hx hb (hml.trans hl.1.symm) hown (hts (.methodLink RX4 71 Lib.Math.max.name) (by decide +kernel)) (hts (.static Lib.Math.max.name) (by decide +kernel)) (hts (.initialized "java/lang/Math") (by decide +kernel)) (hts (.code Lib.Math.max.name Lib.Math.max.code 2 (some .int)) (by decide +kernel)) (Nat.le_of_ble_eq_true rfl) (Nat.le_of_ble_eq_true rfl) (by show _ ≤ 203; omega) (by show _ ≤ 10504; omega) dX4_moved_41 ?_
      refine W.eq (g2 := F0 m 44 ls [.int (jmax (nI 0) ((nI (L.2.1 i)) + ((nI 2) * by9))), .int (nI 0), .ref b2, .ref b2]) rfl ?_
      refine q_iast hx hb hK nb2 0 (rfl) (by omega) (by decide) hS (hA _ (by omega)) dX4_moved_44 (fun H1 locs1 hw9 hz oq hS => ?_)
      have nb2 := hw9
      replace hold := fun (z : Nat) (hz : z < s.heap.size) => (oq z (by omega)).trans (hold z hz)
      replace hil := hil.ne hlw9 (by omega) oq
      refine lv_dup hx hb dX4_moved_45 rfl ?_
      refine lv_iconst (v := nI 1) hx hb dX4_moved_46 (by decide) ?_
      refine lv_sipush (v := nI 200) hx hb dX4_moved_47 (by decide) ?_
      refine lv_aload hx hb dX4_moved_50 (lv_at hl 0 rfl) ?_
      refine lv_iconst (v := nI 1) hx hb dX4_moved_52 (by decide) ?_
      refine q_iald hx hb hK ((hi0.old hold).2 i (by omega)).2 1 (rfl) (by omega) (by decide) dX4_moved_53 ?_
      refine W.eq (g2 := F0 m 54 ls [.int (nI (L.2.2 i)), .int (nI 200), .int (nI 1), .ref b2, .ref b2]) rfl ?_
      refine lv_iconst (v := nI 2) hx hb dX4_moved_54 (by decide) ?_
      refine lv_iload_n hx hb dX4_moved_55 rfl (lv_at hl 6 rfl) ?_
      refine lv_imul hx hb dX4_moved_56 ?_
      refine lv_iadd hx hb dX4_moved_57 ?_
      refine va_mmin hx hb (hml.trans hl.1.symm) hown (hts (.methodLink RX4 66 Lib.Math.min.name) (by decide +kernel)) (hts (.static Lib.Math.min.name) (by decide +kernel)) (hts (.initialized "java/lang/Math") (by decide +kernel)) (hts (.code Lib.Math.min.name Lib.Math.min.code 2 (some .int)) (by decide +kernel)) (Nat.le_of_ble_eq_true rfl) (Nat.le_of_ble_eq_true rfl) (by show _ ≤ 203; omega) (by show _ ≤ 10504; omega) dX4_moved_58 ?_
      refine W.eq (g2 := F0 m 61 ls [.int (jmin (nI 200) ((nI (L.2.2 i)) + ((nI 2) * by9))), .int (nI 1), .ref b2, .ref b2]) rfl ?_
      refine q_iast hx hb hK nb2 1 (rfl) (by omega) (by decide) hS (hA _ (by omega)) dX4_moved_61 (fun H1 locs1 hw9 hz oq hS => ?_)
      have nb2 := hw9
      replace hold := fun (z : Nat) (hz : z < s.heap.size) => (oq z (by omega)).trans (hold z hz)
      replace hil := hil.ne hlw9 (by omega) oq
      refine lv_astore (lv' := [(7, .ref b2), (6, .ref (ads i)), (5, .int (nI i)), (4, .int (nI L.1)), (3, .ref q), (2, .ref mk), (0, .ref q), (1, .int by9)]) hx hb dX4_moved_62 hl (by decide) rfl (fun ls hl => ?_)
      refine lv_aload hx hb dX4_moved_64 (lv_at hl 0 rfl) ?_
      refine lv_iconst (v := nI 0) hx hb dX4_moved_66 (by decide) ?_
      refine q_iald hx hb hK nb2 0 (rfl) (by omega) (by decide) dX4_moved_67 ?_
      refine W.eq (g2 := F0 m 68 ls [.int (jmax (nI 0) ((nI (L.2.1 i)) + ((nI 2) * by9)))]) rfl ?_
      refine lv_aload hx hb dX4_moved_68 (lv_at hl 0 rfl) ?_
      refine lv_iconst (v := nI 1) hx hb dX4_moved_70 (by decide) ?_
      refine q_iald hx hb hK nb2 1 (rfl) (by omega) (by decide) dX4_moved_71 ?_
      refine W.eq (g2 := F0 m 72 ls [.int (jmin (nI 200) ((nI (L.2.2 i)) + ((nI 2) * by9))), .int (jmax (nI 0) ((nI (L.2.1 i)) + ((nI 2) * by9)))]) rfl ?_
      refine lv_icmp_gt (tgt := 82) hx hb dX4_moved_72 (by decide) (fun c72 => ?_) (fun c72 => ?_)
      · skip
        have c72 : ¬ max 0 ((L.2.1 i : Int) + 2 * by9.toInt) ≤ min 200 ((L.2.2 i : Int) + 2 * by9.toInt) := (mv_c (by omega) (by omega) h1 h2).mp c72
        refine lv_iinc (v := nI (i + 1)) (lv' := [(5, .int (nI (i + 1))), (7, .ref b2), (6, .ref (ads i)), (4, .int (nI L.1)), (3, .ref q), (2, .ref mk), (0, .ref q), (1, .int by9)]) hx hb dX4_moved_82 hl (k := 2) rfl (inc_1 _) (by decide) rfl (fun ls hl => ?_)
        refine lv_goto (tgt := 14) hx hb dX4_moved_85 (by decide) ?_
        exact W.widen (by omega) (by omega) (hnext _ _ _ ⟨mk, adm, S, hS, lv_sub hl [0, 3, 4, 5, 6, 7] rfl, (by omega), (by exact hil), (by first | exact mv_y hR (by omega) hrep c72 | exact mv_n hR (by omega) hrep c72), (by exact hold)⟩)
      · skip
        have c72 : ¬ (¬ max 0 ((L.2.1 i : Int) + 2 * by9.toInt) ≤ min 200 ((L.2.2 i : Int) + 2 * by9.toInt)) := fun q9 => c72 ((mv_c (by omega) (by omega) h1 h2).mpr q9)
        have c72 := Classical.not_not.mp c72
        rw [mv_x (by omega) h1 h2, mv_yn (a := L.2.1 i) (by omega) h1 h2 c72] at nb2
        refine lv_aload_n hx hb dX4_moved_75 rfl (lv_at hl 5 rfl) ?_
        refine lv_aload hx hb dX4_moved_76 (lv_at hl 0 rfl) ?_
        obtain ⟨b3, hb3⟩ : ∃ z : Nat, z = H1.size := ⟨_, rfl⟩
        have lnb2_b3 : b2 < b3 := by have h8 := nb2.lt; omega
        have ln_b3 : s.heap.size ≤ b3 := by have h8 := hS.1; omega
        refine va_callr (va_runS (As := [.ref mk, .ref b2]) (rest := []) ⟨hx, hb, hml, hown, hts⟩ (conX4_with l D T b3 sz mk b2 ((max 0 ((L.2.1 i : Int) + 2 * by9.toInt)).toNat) ((min 200 ((L.2.2 i : Int) + 2 * by9.toInt)).toNat) (fun k => adm k) S.1 S.2.1 S.2.2 (by omega) (by omega)) (va_cwS 2 hts gX4_moved_X4_with rfl rfl rfl (by decide +kernel) ⟨Nat.le_of_ble_eq_true rfl, Nat.le_of_ble_eq_true rfl⟩) (preS hK ⟨hb3.symm, hil, nb2.outN (pr2_u _ _)⟩) rfl rfl hl.1 rfl (lv_room (Nat.le_of_ble_eq_true rfl)) dX4_moved_78 ⟨by show _ ≤ 203; omega, by show _ ≤ 10504; omega⟩) hS (fun q _ h9 => (hA q (by have h8 : b3 ≤ q := h9; omega))) (fun q h9 => (hA q (by have h8 : b3 ≤ q := h9; omega))) (fun u ra t H1 locs1 ht hvm hw9 hB hz1 hk1 hS => ?_)
        try dsimp only at hB
        rw [ht] at hB
        obtain ⟨a1, rfl⟩ : ∃ z, z = ra := ⟨_, rfl⟩
        obtain ⟨hra, hz9, hil⟩ := hB
        subst hra
        replace hold := fun (z : Nat) (hz : z < s.heap.size) => (hk1 z (by omega) (fun h9 => by have h8 : a1 ≤ z := h9; omega)).trans (hold z hz)
        refine lv_astore_n (lv' := [(2, .ref a1), (7, .ref b2), (6, .ref (ads i)), (5, .int (nI i)), (4, .int (nI L.1)), (3, .ref q), (0, .ref q), (1, .int by9)]) hx hb dX4_moved_81 rfl hl (by decide) rfl (fun ls hl => ?_)
        refine lv_iinc (v := nI (i + 1)) (lv' := [(5, .int (nI (i + 1))), (2, .ref a1), (7, .ref b2), (6, .ref (ads i)), (4, .int (nI L.1)), (3, .ref q), (0, .ref q), (1, .int by9)]) hx hb dX4_moved_82 hl (k := 3) rfl (inc_1 _) (by decide) rfl (fun ls hl => ?_)
        refine lv_goto (tgt := 14) hx hb dX4_moved_85 (by decide) ?_
        exact W.widen (by omega) (by omega) (hnext _ _ _ ⟨a1, fun k => if k = S.1 then b2 else adm k, snocS S ((max 0 ((L.2.1 i : Int) + 2 * by9.toInt)).toNat) ((min 200 ((L.2.2 i : Int) + 2 * by9.toInt)).toNat), hS, lv_sub hl [0, 4, 5, 1, 6, 7] rfl, (by omega), (by exact hil), (by first | exact mv_y hR (by omega) hrep c72 | exact mv_n hR (by omega) hrep c72), (by exact hold)⟩)
  · skip
    intro H locs ls hin9
    obtain ⟨mk, adm, S, hS, hl, hmk, hil, hrep, hold⟩ := hin9
    have hle9 := hrep.1.le
    refine lv_iload hx hb dX4_moved_14 (lv_at hl 0 rfl) ?_
    refine lv_iload hx hb dX4_moved_16 (lv_at hl 1 rfl) ?_
    refine lv_icmp_ge (tgt := 88) hx hb dX4_moved_18 (by decide) (fun c18 => ?_) (fun c18 => ?_)
    · skip
      have c18 : L.1 ≤ L.1 := (nc_le (a := L.1) (b := L.1) (by omega) (by omega)).mp c18
      refine lv_aload_n hx hb dX4_moved_88 rfl (lv_at hl 3 rfl) ?_
      refine W.widen (k := 203) (n := 10504) (by first | omega | decide) (by first | omega | decide) ?_
      exact W.aret (v := .ref mk) hx hb hr (Or.inr ⟨_, rfl⟩) (Or.inr ⟨_, rfl⟩) (fun t ht _ => ⟨⟨(), mk, rfl, trivial, by dsimp only; rw [ht]; exact ⟨hmk, S, mv_e hR hrep, _, hil⟩⟩, hS.F ht⟩) hS.2.2 dX4_moved_89
    · skip
      have c18 : ¬ (L.1 ≤ L.1) := fun q9 => c18 ((nc_le (a := L.1) (b := L.1) (by omega) (by omega)).mpr q9)
      omega
