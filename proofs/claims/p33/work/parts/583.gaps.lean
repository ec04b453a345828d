/-! STONES: THE GAPS OF A ROW OF SPANS -/
set_option maxHeartbeats 4000000 in
set_option maxRecDepth 100000 in
theorem conX4_gaps (l : Launch) (D : va_G) (T : Nat → ClassId) (sz : Nat) (w q : Nat) (ads : Nat → Nat) (L : SL) (pq : Nat → Bool) (hR : Rep pq 201 L) : Met l yX4_gaps wsX4_gaps ({ frames := 2, cells := 205, slots := 10608, locals := 82 }) (cP D T [.ref q] (fun H => H.size = sz ∧ ILA D T w q ads L.1 L.2.1 L.2.2 H)) (va_Qr (fun (_ : Unit) => True) (fun _ r t => sz ≤ r ∧ ∃ S : SL, Rep (npB pq) 201 S ∧ IL D T sz r S t.heap) (fun z : Nat => sz ≤ z)) 205 10608 (fun z : Nat => sz ≤ z) := by
  refine Met.ofW (cc := cX4_gaps) (maxL := 6) (ret := (some (.array (.array .int)))) (by decide) rfl ?_
  intro p e s m args below meth c s₁ B hml hv9
  obtain ⟨rfl, hK, hsz, hi0⟩ := hv9
  have hx := B.exec
  have hb := B.bytes
  have hr := B.returns
  have hts := atoms_spec (ws := wsX4_gaps) B.pre
  have hown : s.vm.findClass RX4 = some m.cls := findClass_of_methodNamed B.named
  have hlocks := B.notSynchronized
  generalize hAe : (fun z : Nat => sz ≤ z) = A
  have hA : ∀ z : Nat, s.heap.size ≤ z → A z := fun z h9 => by subst hAe; show sz ≤ z; omega
  have hS : va_S A s.heap s.heap [] := va_S.rf
  have hl := lv_entry ([.ref q]) (n := 6) (Nat.le_of_ble_eq_true rfl)
  rw [lg_entry_eq]
  generalize (lg_sl ([.ref q]) ++ List.replicate (6 - (lg_sl ([.ref q])).length) Slot.unset).toArray = ls at hl ⊢
  have hl : lv_has ls 6 [(0, .ref q)] := hl
  have hold : ∀ z : Nat, z < s.heap.size → s.heap[z]? = s.heap[z]? := fun _ _ => rfl
  have hn9 := hR.1.le
  refine lv_iconst (v := nI 0) hx hb dX4_gaps_0 (by decide) ?_
  obtain ⟨b1, hb1⟩ : ∃ z : Nat, z = s.heap.size := ⟨_, rfl⟩
  have ln_b1 : s.heap.size ≤ b1 := by have h8 := hS.1; omega
  refine q_newqa hx hb hown (hts (.classLink RX4 44 "[I") (by decide +kernel)) hK 0 rfl (by omega) (by show _ ≤ 205; omega) (by show _ ≤ 10608; omega) hS dX4_gaps_1 (fun H1 hw9 z1 o1 hS => ?_)
  rw [← hb1] at hw9 ⊢
  have nb1 := hw9
  have sb1 : H1.size = b1 + 1 := by omega
  replace hold := fun (z : Nat) (hz : z < s.heap.size) => (o1 z (by omega)).trans (hold z hz)
  refine lv_astore_n (lv' := [(1, .ref b1), (0, .ref q)]) hx hb dX4_gaps_4 rfl hl (by decide) rfl (fun ls hl => ?_)
  refine lv_iconst (v := nI 0) hx hb dX4_gaps_5 (by decide) ?_
  refine lv_istore_n (lv' := [(2, .int (nI 0)), (1, .ref b1), (0, .ref q)]) hx hb dX4_gaps_6 rfl hl (by decide) rfl (fun ls hl => ?_)
  refine lv_iconst (v := nI 0) hx hb dX4_gaps_7 (by decide) ?_
  refine lv_istore_n (lv' := [(3, .int (nI 0)), (2, .int (nI 0)), (1, .ref b1), (0, .ref q)]) hx hb dX4_gaps_8 rfl hl (by decide) rfl (fun ls hl => ?_)
  refine q_forg (fun (i : Nat) (H : Heap) (locs : List Loc) (ls : Array Slot) => ∃ mk : Nat, ∃ adm : Nat → Nat, ∃ S : SL, ∃ fr : Nat, va_S A s.heap H locs ∧ lv_has ls 6 [(3, .int (nI i)), (2, .int (nI fr)), (1, .ref mk), (0, .ref q)] ∧ sz ≤ mk ∧ ILA D T sz mk adm S.1 S.2.1 S.2.2 H ∧ (i ≤ L.1 → fr = frN L i) ∧ Rep (npB pq) (if i ≤ L.1 then frN L i else 201) S ∧ ∀ z : Nat, z < s.heap.size → H[z]? = s.heap[z]?) (L.1 + 1) 2 104 ?_ ?_ ?_
  · skip
    exact ⟨b1, fun _ => 0, (0, fun _ => 0, fun _ => 0), 0, hS, lv_sub hl [0, 1, 2, 3] rfl, (by omega), (by exact ILA.nil nb1), (by exact fun _ => (frN_0 L).symm), (by rw [if_pos (Nat.zero_le _), frN_0]; exact Rep.nil _ _ _), (by exact hold)⟩
  · skip
    intro i H locs ls hi9 hin9 hnext
    obtain ⟨mk, adm, S, fr, hS, hl, hmk, hil, hfr, hrep, hold⟩ := hin9
    have hle9 := hrep.1.le
    obtain rfl : fr = frN L i := hfr (by omega)
    rw [if_pos (show i ≤ L.1 by omega)] at hrep
    have hfl9 := hR.fr_le (show i ≤ L.1 by omega)
    refine lv_iload_n hx hb dX4_gaps_9 rfl (lv_at hl 0 rfl) ?_
    refine lv_aload_n hx hb dX4_gaps_10 rfl (lv_at hl 3 rfl) ?_
    refine q_len hx hb hK 5 rfl (hi0.old hold).1 dX4_gaps_11 ?_
    refine lv_icmp_gt (tgt := 87) hx hb dX4_gaps_12 (by decide) (fun c12 => ?_) (fun c12 => ?_)
    · skip
      have c12 : L.1 < i := (nc_lt (a := L.1) (b := i) (by omega) (by omega)).mp c12
      omega
    · skip
      have c12 : ¬ (L.1 < i) := fun q9 => c12 ((nc_lt (a := L.1) (b := i) (by omega) (by omega)).mpr q9)
      refine lv_iload_n hx hb dX4_gaps_15 rfl (lv_at hl 0 rfl) ?_
      refine lv_aload_n hx hb dX4_gaps_16 rfl (lv_at hl 3 rfl) ?_
      refine q_len hx hb hK 5 rfl (hi0.old hold).1 dX4_gaps_17 ?_
      refine lv_icmp_ge (tgt := 31) hx hb dX4_gaps_18 (by decide) (fun c18 => ?_) (fun c18 => ?_)
      · skip
        have c18 : L.1 ≤ i := (nc_le (a := L.1) (b := i) (by omega) (by omega)).mp c18
        refine lv_sipush (v := nI 200) hx hb dX4_gaps_31 (by decide) ?_
        refine lv_istore (lv' := [(4, .int (nI 200)), (3, .int (nI i)), (2, .int (nI (frN L i))), (1, .ref mk), (0, .ref q)]) hx hb dX4_gaps_34 hl (by decide) rfl (fun ls hl => ?_)
        refine lv_iconst (v := nI 2) hx hb dX4_gaps_36 (by decide) ?_
        have hlw9 := hil.low
        obtain ⟨b2, hb2⟩ : ∃ z : Nat, z = H.size := ⟨_, rfl⟩
        have ln_b2 : s.heap.size ≤ b2 := by have h8 := hS.1; omega
        refine q_newi hx hb (hts (.arrayClass .int) (by decide +kernel)) hK 2 rfl (by decide) (by show _ ≤ 205; omega) (by show _ ≤ 10608; omega) hS dX4_gaps_37 (fun H1 hw9 z1 o1 hS => ?_)
        rw [← hb2] at hw9 ⊢
        have nb2 := hw9
        have sb2 : H1.size = b2 + 1 := by omega
        replace hold := fun (z : Nat) (hz : z < s.heap.size) => (o1 z (by omega)).trans (hold z hz)
        replace hil := hil.old o1
        refine lv_dup hx hb dX4_gaps_39 rfl ?_
        refine lv_iconst (v := nI 0) hx hb dX4_gaps_40 (by decide) ?_
        refine lv_iload_n hx hb dX4_gaps_41 rfl (lv_at hl 2 rfl) ?_
        refine q_iast hx hb hK nb2 0 (rfl) (by omega) (by decide) hS (hA _ (by omega)) dX4_gaps_42 (fun H1 locs1 hw9 hz oq hS => ?_)
        have nb2 := hw9
        replace hold := fun (z : Nat) (hz : z < s.heap.size) => (oq z (by omega)).trans (hold z hz)
        replace hil := hil.ne hlw9 (by omega) oq
        refine lv_dup hx hb dX4_gaps_43 rfl ?_
        refine lv_iconst (v := nI 1) hx hb dX4_gaps_44 (by decide) ?_
        refine lv_iload hx hb dX4_gaps_45 (lv_at hl 0 rfl) ?_
        refine q_iast hx hb hK nb2 1 (rfl) (by omega) (by decide) hS (hA _ (by omega)) dX4_gaps_47 (fun H1 locs1 hw9 hz oq hS => ?_)
        have nb2 := hw9
        replace hold := fun (z : Nat) (hz : z < s.heap.size) => (oq z (by omega)).trans (hold z hz)
        replace hil := hil.ne hlw9 (by omega) oq
        refine lv_astore (lv' := [(5, .ref b2), (4, .int (nI 200)), (3, .int (nI i)), (2, .int (nI (frN L i))), (1, .ref mk), (0, .ref q)]) hx hb dX4_gaps_48 hl (by decide) rfl (fun ls hl => ?_)
        refine lv_iload hx hb dX4_gaps_50 (lv_at hl 1 rfl) ?_
        refine lv_iload_n hx hb dX4_gaps_52 rfl (lv_at hl 3 rfl) ?_
        refine lv_icmp_lt (tgt := 63) hx hb dX4_gaps_53 (by decide) (fun c53 => ?_) (fun c53 => ?_)
        · skip
          have c53 : 200 < frN L i := (nc_lt (a := 200) (b := frN L i) (by omega) (by omega)).mp c53
          refine lv_iload_n hx hb dX4_gaps_63 rfl (lv_at hl 2 rfl) ?_
          refine lv_aload_n hx hb dX4_gaps_64 rfl (lv_at hl 5 rfl) ?_
          refine q_len hx hb hK 5 rfl (hi0.old hold).1 dX4_gaps_65 ?_
          refine lv_icmp_ge (tgt := 79) hx hb dX4_gaps_66 (by decide) (fun c66 => ?_) (fun c66 => ?_)
          · skip
            have c66 : L.1 ≤ i := (nc_le (a := L.1) (b := i) (by omega) (by omega)).mp c66
            refine lv_iconst (v := nI 0) hx hb dX4_gaps_79 (by decide) ?_
            refine lv_istore_n (lv' := [(2, .int (nI 0)), (5, .ref b2), (4, .int (nI 200)), (3, .int (nI i)), (1, .ref mk), (0, .ref q)]) hx hb dX4_gaps_80 rfl hl (by decide) rfl (fun ls hl => ?_)
            refine lv_iinc (v := nI (i + 1)) (lv' := [(3, .int (nI (i + 1))), (2, .int (nI 0)), (5, .ref b2), (4, .int (nI 200)), (1, .ref mk), (0, .ref q)]) hx hb dX4_gaps_81 hl (k := 3) rfl (inc_1 _) (by decide) rfl (fun ls hl => ?_)
            refine lv_goto (tgt := 9) hx hb dX4_gaps_84 (by decide) ?_
            exact W.widen (by omega) (by omega) (hnext _ _ _ ⟨mk, adm, S, 0, hS, lv_sub hl [0, 1, 4, 5] rfl, (by omega), (by exact hil), (by first | (intro h8; omega) | (intro _; exact (frN_s L i).symm)), (by first | (rw [if_pos (show i + 1 ≤ L.1 by omega)]; exact gap_y hR (by omega) hrep (by omega)) | (rw [if_pos (show i + 1 ≤ L.1 by omega)]; exact gap_n hR (by omega) hrep (by omega)) | (rw [if_neg (show ¬ i + 1 ≤ L.1 by omega)]; obtain rfl : i = L.1 := (by omega); first | exact gap_ey hR hrep (by omega) | exact gap_en hR hrep (by omega))), (by exact hold)⟩)
          · skip
            have c66 : ¬ (L.1 ≤ i) := fun q9 => c66 ((nc_le (a := L.1) (b := i) (by omega) (by omega)).mpr q9)
            omega
        · skip
          have c53 : ¬ (200 < frN L i) := fun q9 => c53 ((nc_lt (a := 200) (b := frN L i) (by omega) (by omega)).mpr q9)
          refine lv_aload_n hx hb dX4_gaps_56 rfl (lv_at hl 4 rfl) ?_
          refine lv_aload hx hb dX4_gaps_57 (lv_at hl 0 rfl) ?_
          obtain ⟨b3, hb3⟩ : ∃ z : Nat, z = H1.size := ⟨_, rfl⟩
          have lnb2_b3 : b2 < b3 := by have h8 := nb2.lt; omega
          have ln_b3 : s.heap.size ≤ b3 := by have h8 := hS.1; omega
          refine va_callr (va_runS (As := [.ref mk, .ref b2]) (rest := []) ⟨hx, hb, hml, hown, hts⟩ (conX4_with l D T b3 sz mk b2 (frN L i) 200 (fun k => adm k) S.1 S.2.1 S.2.2 (by omega) (by omega)) (va_cwS 2 hts gX4_gaps_X4_with rfl rfl rfl (by decide +kernel) ⟨Nat.le_of_ble_eq_true rfl, Nat.le_of_ble_eq_true rfl⟩) (preS hK ⟨hb3.symm, hil, nb2.outN (pr2_u _ _)⟩) rfl rfl hl.1 rfl (lv_room (Nat.le_of_ble_eq_true rfl)) dX4_gaps_59 ⟨by show _ ≤ 205; omega, by show _ ≤ 10608; omega⟩) hS (fun q _ h9 => (hA q (by have h8 : b3 ≤ q := h9; omega))) (fun q h9 => (hA q (by have h8 : b3 ≤ q := h9; omega))) (fun u ra t H1 locs1 ht hvm hw9 hB hz1 hk1 hS => ?_)
          try dsimp only at hB
          rw [ht] at hB
          obtain ⟨a1, rfl⟩ : ∃ z, z = ra := ⟨_, rfl⟩
          obtain ⟨hra, hz9, hil⟩ := hB
          subst hra
          replace hold := fun (z : Nat) (hz : z < s.heap.size) => (hk1 z (by omega) (fun h9 => by have h8 : a1 ≤ z := h9; omega)).trans (hold z hz)
          refine lv_astore_n (lv' := [(1, .ref a1), (5, .ref b2), (4, .int (nI 200)), (3, .int (nI i)), (2, .int (nI (frN L i))), (0, .ref q)]) hx hb dX4_gaps_62 rfl hl (by decide) rfl (fun ls hl => ?_)
          refine lv_iload_n hx hb dX4_gaps_63 rfl (lv_at hl 3 rfl) ?_
          refine lv_aload_n hx hb dX4_gaps_64 rfl (lv_at hl 5 rfl) ?_
          refine q_len hx hb hK 5 rfl (hi0.old hold).1 dX4_gaps_65 ?_
          refine lv_icmp_ge (tgt := 79) hx hb dX4_gaps_66 (by decide) (fun c66 => ?_) (fun c66 => ?_)
          · skip
            have c66 : L.1 ≤ i := (nc_le (a := L.1) (b := i) (by omega) (by omega)).mp c66
            refine lv_iconst (v := nI 0) hx hb dX4_gaps_79 (by decide) ?_
            refine lv_istore_n (lv' := [(2, .int (nI 0)), (1, .ref a1), (5, .ref b2), (4, .int (nI 200)), (3, .int (nI i)), (0, .ref q)]) hx hb dX4_gaps_80 rfl hl (by decide) rfl (fun ls hl => ?_)
            refine lv_iinc (v := nI (i + 1)) (lv' := [(3, .int (nI (i + 1))), (2, .int (nI 0)), (1, .ref a1), (5, .ref b2), (4, .int (nI 200)), (0, .ref q)]) hx hb dX4_gaps_81 hl (k := 4) rfl (inc_1 _) (by decide) rfl (fun ls hl => ?_)
            refine lv_goto (tgt := 9) hx hb dX4_gaps_84 (by decide) ?_
            exact W.widen (by omega) (by omega) (hnext _ _ _ ⟨a1, fun k => if k = S.1 then b2 else adm k, snocS S (frN L i) 200, 0, hS, lv_sub hl [0, 1, 2, 5] rfl, (by omega), (by exact hil), (by first | (intro h8; omega) | (intro _; exact (frN_s L i).symm)), (by first | (rw [if_pos (show i + 1 ≤ L.1 by omega)]; exact gap_y hR (by omega) hrep (by omega)) | (rw [if_pos (show i + 1 ≤ L.1 by omega)]; exact gap_n hR (by omega) hrep (by omega)) | (rw [if_neg (show ¬ i + 1 ≤ L.1 by omega)]; obtain rfl : i = L.1 := (by omega); first | exact gap_ey hR hrep (by omega) | exact gap_en hR hrep (by omega))), (by exact hold)⟩)
          · skip
            have c66 : ¬ (L.1 ≤ i) := fun q9 => c66 ((nc_le (a := L.1) (b := i) (by omega) (by omega)).mpr q9)
            omega
      · skip
        have c18 : ¬ (L.1 ≤ i) := fun q9 => c18 ((nc_le (a := L.1) (b := i) (by omega) (by omega)).mpr q9)
        have hsp9 := hR.sp (show i < L.1 by omega)
        refine lv_aload_n hx hb dX4_gaps_21 rfl (lv_at hl 3 rfl) ?_
        refine lv_iload_n hx hb dX4_gaps_22 rfl (lv_at hl 0 rfl) ?_
        refine q_aald hx hb hK 5 rfl rfl (hi0.old hold).1 i rfl (by omega) (by omega) (b := ads i) rfl dX4_gaps_23 ?_
        refine lv_iconst (v := nI 0) hx hb dX4_gaps_24 (by decide) ?_
        refine q_iald hx hb hK ((hi0.old hold).2 i (by omega)).2 0 (rfl) (by omega) (by decide) dX4_gaps_25 ?_
        refine W.eq (g2 := F0 m 26 ls [.int (nI (L.2.1 i))]) rfl ?_
        refine lv_iconst (v := nI 1) hx hb dX4_gaps_26 (by decide) ?_
        refine lv_isub hx hb dX4_gaps_27 ?_
        refine lv_goto (tgt := 34) hx hb dX4_gaps_28 (by decide) ?_
        refine lv_istore (lv' := [(4, .int ((nI (L.2.1 i)) - (nI 1))), (3, .int (nI i)), (2, .int (nI (frN L i))), (1, .ref mk), (0, .ref q)]) hx hb dX4_gaps_34 hl (by decide) rfl (fun ls hl => ?_)
        refine lv_iconst (v := nI 2) hx hb dX4_gaps_36 (by decide) ?_
        have hlw9 := hil.low
        obtain ⟨b2, hb2⟩ : ∃ z : Nat, z = H.size := ⟨_, rfl⟩
        have ln_b2 : s.heap.size ≤ b2 := by have h8 := hS.1; omega
        refine q_newi hx hb (hts (.arrayClass .int) (by decide +kernel)) hK 2 rfl (by decide) (by show _ ≤ 205; omega) (by show _ ≤ 10608; omega) hS dX4_gaps_37 (fun H1 hw9 z1 o1 hS => ?_)
        rw [← hb2] at hw9 ⊢
        have nb2 := hw9
        have sb2 : H1.size = b2 + 1 := by omega
        replace hold := fun (z : Nat) (hz : z < s.heap.size) => (o1 z (by omega)).trans (hold z hz)
        replace hil := hil.old o1
        refine lv_dup hx hb dX4_gaps_39 rfl ?_
        refine lv_iconst (v := nI 0) hx hb dX4_gaps_40 (by decide) ?_
        refine lv_iload_n hx hb dX4_gaps_41 rfl (lv_at hl 2 rfl) ?_
        refine q_iast hx hb hK nb2 0 (rfl) (by omega) (by decide) hS (hA _ (by omega)) dX4_gaps_42 (fun H1 locs1 hw9 hz oq hS => ?_)
        have nb2 := hw9
        replace hold := fun (z : Nat) (hz : z < s.heap.size) => (oq z (by omega)).trans (hold z hz)
        replace hil := hil.ne hlw9 (by omega) oq
        refine lv_dup hx hb dX4_gaps_43 rfl ?_
        refine lv_iconst (v := nI 1) hx hb dX4_gaps_44 (by decide) ?_
        refine lv_iload hx hb dX4_gaps_45 (lv_at hl 0 rfl) ?_
        refine q_iast hx hb hK nb2 1 (rfl) (by omega) (by decide) hS (hA _ (by omega)) dX4_gaps_47 (fun H1 locs1 hw9 hz oq hS => ?_)
        have nb2 := hw9
        replace hold := fun (z : Nat) (hz : z < s.heap.size) => (oq z (by omega)).trans (hold z hz)
        replace hil := hil.ne hlw9 (by omega) oq
        refine lv_astore (lv' := [(5, .ref b2), (4, .int ((nI (L.2.1 i)) - (nI 1))), (3, .int (nI i)), (2, .int (nI (frN L i))), (1, .ref mk), (0, .ref q)]) hx hb dX4_gaps_48 hl (by decide) rfl (fun ls hl => ?_)
        refine lv_iload hx hb dX4_gaps_50 (lv_at hl 1 rfl) ?_
        refine lv_iload_n hx hb dX4_gaps_52 rfl (lv_at hl 3 rfl) ?_
        refine lv_icmp_lt (tgt := 63) hx hb dX4_gaps_53 (by decide) (fun c53 => ?_) (fun c53 => ?_)
        · skip
          have c53 : L.2.1 i < frN L i + 1 := (sub1_lt (by omega) (by omega)).mp c53
          refine lv_iload_n hx hb dX4_gaps_63 rfl (lv_at hl 2 rfl) ?_
          refine lv_aload_n hx hb dX4_gaps_64 rfl (lv_at hl 5 rfl) ?_
          refine q_len hx hb hK 5 rfl (hi0.old hold).1 dX4_gaps_65 ?_
          refine lv_icmp_ge (tgt := 79) hx hb dX4_gaps_66 (by decide) (fun c66 => ?_) (fun c66 => ?_)
          · skip
            have c66 : L.1 ≤ i := (nc_le (a := L.1) (b := i) (by omega) (by omega)).mp c66
            omega
          · skip
            have c66 : ¬ (L.1 ≤ i) := fun q9 => c66 ((nc_le (a := L.1) (b := i) (by omega) (by omega)).mpr q9)
            refine lv_aload_n hx hb dX4_gaps_69 rfl (lv_at hl 5 rfl) ?_
            refine lv_iload_n hx hb dX4_gaps_70 rfl (lv_at hl 2 rfl) ?_
            refine q_aald hx hb hK 5 rfl rfl (hi0.old hold).1 i rfl (by omega) (by omega) (b := ads i) rfl dX4_gaps_71 ?_
            refine lv_iconst (v := nI 1) hx hb dX4_gaps_72 (by decide) ?_
            refine q_iald hx hb hK ((hi0.old hold).2 i (by omega)).2 1 (rfl) (by omega) (by decide) dX4_gaps_73 ?_
            refine W.eq (g2 := F0 m 74 ls [.int (nI (L.2.2 i))]) rfl ?_
            refine lv_iconst (v := nI 1) hx hb dX4_gaps_74 (by decide) ?_
            refine lv_iadd hx hb dX4_gaps_75 ?_
            rw [nI_add]
            refine lv_goto (tgt := 80) hx hb dX4_gaps_76 (by decide) ?_
            refine lv_istore_n (lv' := [(2, .int (nI ((L.2.2 i) + 1))), (5, .ref b2), (4, .int ((nI (L.2.1 i)) - (nI 1))), (3, .int (nI i)), (1, .ref mk), (0, .ref q)]) hx hb dX4_gaps_80 rfl hl (by decide) rfl (fun ls hl => ?_)
            refine lv_iinc (v := nI (i + 1)) (lv' := [(3, .int (nI (i + 1))), (2, .int (nI ((L.2.2 i) + 1))), (5, .ref b2), (4, .int ((nI (L.2.1 i)) - (nI 1))), (1, .ref mk), (0, .ref q)]) hx hb dX4_gaps_81 hl (k := 3) rfl (inc_1 _) (by decide) rfl (fun ls hl => ?_)
            refine lv_goto (tgt := 9) hx hb dX4_gaps_84 (by decide) ?_
            exact W.widen (by omega) (by omega) (hnext _ _ _ ⟨mk, adm, S, (L.2.2 i) + 1, hS, lv_sub hl [0, 1, 4, 5] rfl, (by omega), (by exact hil), (by first | (intro h8; omega) | (intro _; exact (frN_s L i).symm)), (by first | (rw [if_pos (show i + 1 ≤ L.1 by omega)]; exact gap_y hR (by omega) hrep (by omega)) | (rw [if_pos (show i + 1 ≤ L.1 by omega)]; exact gap_n hR (by omega) hrep (by omega)) | (rw [if_neg (show ¬ i + 1 ≤ L.1 by omega)]; obtain rfl : i = L.1 := (by omega); first | exact gap_ey hR hrep (by omega) | exact gap_en hR hrep (by omega))), (by exact hold)⟩)
        · skip
          have c53 : ¬ (L.2.1 i < frN L i + 1) := fun q9 => c53 ((sub1_lt (by omega) (by omega)).mpr q9)
          rw [pk_sub (a := L.2.1 i) (b := 1) (by omega)] at nb2
          refine lv_aload_n hx hb dX4_gaps_56 rfl (lv_at hl 4 rfl) ?_
          refine lv_aload hx hb dX4_gaps_57 (lv_at hl 0 rfl) ?_
          obtain ⟨b3, hb3⟩ : ∃ z : Nat, z = H1.size := ⟨_, rfl⟩
          have lnb2_b3 : b2 < b3 := by have h8 := nb2.lt; omega
          have ln_b3 : s.heap.size ≤ b3 := by have h8 := hS.1; omega
          refine va_callr (va_runS (As := [.ref mk, .ref b2]) (rest := []) ⟨hx, hb, hml, hown, hts⟩ (conX4_with l D T b3 sz mk b2 (frN L i) (L.2.1 i - 1) (fun k => adm k) S.1 S.2.1 S.2.2 (by omega) (by omega)) (va_cwS 2 hts gX4_gaps_X4_with rfl rfl rfl (by decide +kernel) ⟨Nat.le_of_ble_eq_true rfl, Nat.le_of_ble_eq_true rfl⟩) (preS hK ⟨hb3.symm, hil, nb2.outN (pr2_u _ _)⟩) rfl rfl hl.1 rfl (lv_room (Nat.le_of_ble_eq_true rfl)) dX4_gaps_59 ⟨by show _ ≤ 205; omega, by show _ ≤ 10608; omega⟩) hS (fun q _ h9 => (hA q (by have h8 : b3 ≤ q := h9; omega))) (fun q h9 => (hA q (by have h8 : b3 ≤ q := h9; omega))) (fun u ra t H1 locs1 ht hvm hw9 hB hz1 hk1 hS => ?_)
          try dsimp only at hB
          rw [ht] at hB
          obtain ⟨a2, rfl⟩ : ∃ z, z = ra := ⟨_, rfl⟩
          obtain ⟨hra, hz9, hil⟩ := hB
          subst hra
          replace hold := fun (z : Nat) (hz : z < s.heap.size) => (hk1 z (by omega) (fun h9 => by have h8 : a2 ≤ z := h9; omega)).trans (hold z hz)
          refine lv_astore_n (lv' := [(1, .ref a2), (5, .ref b2), (4, .int ((nI (L.2.1 i)) - (nI 1))), (3, .int (nI i)), (2, .int (nI (frN L i))), (0, .ref q)]) hx hb dX4_gaps_62 rfl hl (by decide) rfl (fun ls hl => ?_)
          refine lv_iload_n hx hb dX4_gaps_63 rfl (lv_at hl 3 rfl) ?_
          refine lv_aload_n hx hb dX4_gaps_64 rfl (lv_at hl 5 rfl) ?_
          refine q_len hx hb hK 5 rfl (hi0.old hold).1 dX4_gaps_65 ?_
          refine lv_icmp_ge (tgt := 79) hx hb dX4_gaps_66 (by decide) (fun c66 => ?_) (fun c66 => ?_)
          · skip
            have c66 : L.1 ≤ i := (nc_le (a := L.1) (b := i) (by omega) (by omega)).mp c66
            omega
          · skip
            have c66 : ¬ (L.1 ≤ i) := fun q9 => c66 ((nc_le (a := L.1) (b := i) (by omega) (by omega)).mpr q9)
            refine lv_aload_n hx hb dX4_gaps_69 rfl (lv_at hl 5 rfl) ?_
            refine lv_iload_n hx hb dX4_gaps_70 rfl (lv_at hl 3 rfl) ?_
            refine q_aald hx hb hK 5 rfl rfl (hi0.old hold).1 i rfl (by omega) (by omega) (b := ads i) rfl dX4_gaps_71 ?_
            refine lv_iconst (v := nI 1) hx hb dX4_gaps_72 (by decide) ?_
            refine q_iald hx hb hK ((hi0.old hold).2 i (by omega)).2 1 (rfl) (by omega) (by decide) dX4_gaps_73 ?_
            refine W.eq (g2 := F0 m 74 ls [.int (nI (L.2.2 i))]) rfl ?_
            refine lv_iconst (v := nI 1) hx hb dX4_gaps_74 (by decide) ?_
            refine lv_iadd hx hb dX4_gaps_75 ?_
            rw [nI_add]
            refine lv_goto (tgt := 80) hx hb dX4_gaps_76 (by decide) ?_
            refine lv_istore_n (lv' := [(2, .int (nI ((L.2.2 i) + 1))), (1, .ref a2), (5, .ref b2), (4, .int ((nI (L.2.1 i)) - (nI 1))), (3, .int (nI i)), (0, .ref q)]) hx hb dX4_gaps_80 rfl hl (by decide) rfl (fun ls hl => ?_)
            refine lv_iinc (v := nI (i + 1)) (lv' := [(3, .int (nI (i + 1))), (2, .int (nI ((L.2.2 i) + 1))), (1, .ref a2), (5, .ref b2), (4, .int ((nI (L.2.1 i)) - (nI 1))), (0, .ref q)]) hx hb dX4_gaps_81 hl (k := 4) rfl (inc_1 _) (by decide) rfl (fun ls hl => ?_)
            refine lv_goto (tgt := 9) hx hb dX4_gaps_84 (by decide) ?_
            exact W.widen (by omega) (by omega) (hnext _ _ _ ⟨a2, fun k => if k = S.1 then b2 else adm k, snocS S (frN L i) (L.2.1 i - 1), (L.2.2 i) + 1, hS, lv_sub hl [0, 1, 2, 5] rfl, (by omega), (by exact hil), (by first | (intro h8; omega) | (intro _; exact (frN_s L i).symm)), (by first | (rw [if_pos (show i + 1 ≤ L.1 by omega)]; exact gap_y hR (by omega) hrep (by omega)) | (rw [if_pos (show i + 1 ≤ L.1 by omega)]; exact gap_n hR (by omega) hrep (by omega)) | (rw [if_neg (show ¬ i + 1 ≤ L.1 by omega)]; obtain rfl : i = L.1 := (by omega); first | exact gap_ey hR hrep (by omega) | exact gap_en hR hrep (by omega))), (by exact hold)⟩)
  · skip
    intro H locs ls hin9
    obtain ⟨mk, adm, S, fr, hS, hl, hmk, hil, hfr, hrep, hold⟩ := hin9
    have hle9 := hrep.1.le
    refine lv_iload_n hx hb dX4_gaps_9 rfl (lv_at hl 0 rfl) ?_
    refine lv_aload_n hx hb dX4_gaps_10 rfl (lv_at hl 3 rfl) ?_
    refine q_len hx hb hK 5 rfl (hi0.old hold).1 dX4_gaps_11 ?_
    refine lv_icmp_gt (tgt := 87) hx hb dX4_gaps_12 (by decide) (fun c12 => ?_) (fun c12 => ?_)
    · skip
      have c12 : L.1 < (L.1 + 1) := (nc_lt (a := L.1) (b := (L.1 + 1)) (by omega) (by omega)).mp c12
      refine lv_aload_n hx hb dX4_gaps_87 rfl (lv_at hl 2 rfl) ?_
      refine W.widen (k := 205) (n := 10608) (by first | omega | decide) (by first | omega | decide) ?_
      exact W.aret (v := .ref mk) hx hb hr (Or.inr ⟨_, rfl⟩) (Or.inr ⟨_, rfl⟩) (fun t ht _ => ⟨⟨(), mk, rfl, trivial, by dsimp only; rw [ht]; exact ⟨hmk, S, (by rw [if_neg (by omega)] at hrep; exact hrep), _, hil⟩⟩, hS.F ht⟩) hS.2.2 dX4_gaps_88
    · skip
      have c12 : ¬ (L.1 < (L.1 + 1)) := fun q9 => c12 ((nc_lt (a := L.1) (b := (L.1 + 1)) (by omega) (by omega)).mpr q9)
      omega
